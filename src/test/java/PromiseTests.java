import java.util.Objects;

/** For each promise of the document: ordinary inputs, the edges that it names, and wrong inputs. */
public final class PromiseTests {
    private interface Call {
        Object run();
    }

    private static final Class<?> INDEX = IndexOutOfBoundsException.class;
    private static final Class<?> ARGUMENT = IllegalArgumentException.class;
    private static final Class<?> STATE = IllegalStateException.class;
    private static final int[] WRONG = {Integer.MIN_VALUE, -1, 100, Integer.MAX_VALUE};

    private static int checks = 0;
    private static int wrong = 0;
    private static String promise = "";

    public static void main(String[] args) {
        promise01NewObject();
        promise02Type();
        promise03Enter();
        promise04Tags();
        promise05Letter();
        promise06And07Things();
        promise08Tag();
        promise09Untag();
        promise10Mass();
        promise10MassSeesWhatWasShownAhead();
        promise11Undo();
        promise12Kept();
        promise13Hand();
        promise14Ask();
        promise15Vote();
        promise15VoteThatCannotPass();
        promise16Standing();
        promise17CouldPassAlias();
        promise17CouldPassImply();
        promise17CouldPassLift();
        promise18Clashes();
        promise19And20AliasAndEnd();
        promise21Implies();
        promise22And23Shown();
        promise22LiftedRulesTakeOnlyTheirOwn();
        promise24Users();
        promise25Reason();
        promise26Count();
        promise27Match();
        fullKeeperAndManyCalls();
        System.out.println("PromiseTests: " + checks + " checks, " + wrong + " wrong");
        if (wrong != 0) {
            System.exit(1);
        }
    }

    // ---- helpers

    private static void due(String what, Object got, Object want) {
        checks++;
        if (!Objects.equals(got, want)) {
            wrong++;
            System.out.println(promise + ": " + what + " answered " + got + ", due is " + want);
        }
    }

    /** The call must throw just this exception; BoundaryTests looks whether it has changed anything. */
    private static void dueThrow(String what, Class<?> want, Call call) {
        Object got;
        try {
            got = call.run();
        } catch (RuntimeException e) {
            got = e.getClass();
        }
        due(what, got, want);
    }

    private static String name(TagRoot x, int tag) {
        StringBuilder text = new StringBuilder();
        for (int index = 0; index < 8; index++) {
            try {
                text.append(x.letter(tag, index));
            } catch (IndexOutOfBoundsException e) {
                break;
            }
        }
        return text.toString();
    }

    private static int enter(TagRoot x, String name) {
        for (int index = 0; index < name.length(); index++) {
            x.type(name.charAt(index));
        }
        return x.enter();
    }

    private static TagRoot keeper(int tags, int things) {
        TagRoot x = new TagRoot();
        for (int tag = 0; tag < tags; tag++) {
            enter(x, String.valueOf((char) ('a' + tag)));
        }
        for (int thing = 0; thing < things; thing++) {
            x.addThing();
        }
        return x;
    }

    private static int pass(TagRoot x, int kind, int tag, int other) {
        int request = x.ask(kind, tag, other);
        x.vote(request, 0, true);
        x.vote(request, 1, true);
        return x.vote(request, 2, true);
    }

    private static void make(TagRoot x, int kind, int tag, int other) {
        due("request " + kind + " from " + tag + " to " + other, pass(x, kind, tag, other), TagRoot.PASSED);
    }

    private static boolean can(TagRoot x, int kind, int tag, int other) {
        return x.couldPass(x.ask(kind, tag, other));
    }

    private static void dueShown(TagRoot x, int thing, int want) {
        due("shown(" + thing + ")", x.shown(thing), want);
        due("shownByHand(" + thing + ")", x.shownByHand(thing), want);
    }

    // ---- names and things

    private static void promise01NewObject() {
        promise = "1 a new object";
        TagRoot x = new TagRoot();
        due("tags()", x.tags(), 0);
        due("things()", x.things(), 0);
        due("kept()", x.kept(), 0);
        due("count(0, 0, 0)", x.count(0, 0, 0), 0);
        dueThrow("enter()", STATE, x::enter);
        dueThrow("undo()", STATE, x::undo);
        dueThrow("standing(0)", INDEX, () -> x.standing(0));
        dueThrow("hand(0)", INDEX, () -> x.hand(0));
        dueThrow("end(0)", INDEX, () -> x.end(0));
        due("the first character", x.type('q'), 1);
        TagRoot y = new TagRoot();
        due("the first character of another object", y.type('q'), 1);
    }

    private static void promise02Type() {
        promise = "2 type";
        for (int code = 0; code <= Character.MAX_VALUE; code++) {
            char character = (char) code;
            boolean isAllowed = code < 128 && (Character.isLetter(character) || code == '-' || code == '_');
            TagRoot x = new TagRoot();
            if (isAllowed) {
                due("type of " + code, x.type(character), 1);
            } else {
                dueThrow("type of " + code, ARGUMENT, () -> x.type(character));
            }
        }
        TagRoot x = new TagRoot();
        String eight = "aZ-_zAbY";
        for (int index = 0; index < 8; index++) {
            due("the length of the draft", x.type(eight.charAt(index)), index + 1);
        }
        dueThrow("a ninth character", STATE, () -> x.type('a'));
        dueThrow("a ninth character that is none of names", ARGUMENT, () -> x.type('0'));
        due("enter()", x.enter(), 0);
        due("the name", name(x, 0), eight);
        due("the draft is empty then", x.type('a'), 1);
        dueThrow("a wrong character", ARGUMENT, () -> x.type(' '));
        due("it left the draft", x.type('a'), 2);
    }

    private static void promise03Enter() {
        promise = "3 enter";
        TagRoot x = new TagRoot();
        dueThrow("an empty draft", STATE, x::enter);
        due("a new name", enter(x, "Red-Hat"), 0);
        dueThrow("the draft is empty again", STATE, x::enter);
        due("the same name", enter(x, "rED_hAT"), 0);
        due("the same name once more", enter(x, "Red-Hat"), 0);
        due("a shorter name", enter(x, "red-ha"), 1);
        due("a longer name", enter(x, "red-hats"), 2);
        due("a name with another character", enter(x, "redhat"), 3);
        due("a name of signs", enter(x, "--"), 4);
        due("the same name of signs", enter(x, "_-"), 4);
        due("another name of signs", enter(x, "_"), 5);
        due("Z", enter(x, "Z"), 6);
        due("z", enter(x, "z"), 6);
        due("A", enter(x, "A"), 7);
        due("a", enter(x, "a"), 7);
        TagRoot full = keeper(24, 0);
        due("tags()", full.tags(), 24);
        due("a known name with 24 tags", enter(full, "X"), 23);
        full.type('y');
        dueThrow("a 25th tag", STATE, full::enter);
        due("the draft is left", full.type('y'), 2);
        dueThrow("a 25th tag", STATE, full::enter);
        TagRoot half = keeper(23, 0);
        due("the 24th tag", enter(half, "yy"), 23);
    }

    private static void promise04Tags() {
        promise = "4 tags";
        TagRoot x = new TagRoot();
        for (int tag = 0; tag < 24; tag++) {
            x.type((char) ('a' + tag));
            due("a draft is no tag", x.tags(), tag);
            x.enter();
            due("tags()", x.tags(), tag + 1);
        }
        enter(x, "A");
        due("a known name", x.tags(), 24);
    }

    private static void promise05Letter() {
        promise = "5 letter";
        TagRoot x = new TagRoot();
        enter(x, "Ab-C_dEf");
        enter(x, "x");
        enter(x, "aB_c-DeF");
        due("as it was entered first", name(x, 0), "Ab-C_dEf");
        due("letter(0, 7)", x.letter(0, 7), 'f');
        due("letter(1, 0)", x.letter(1, 0), 'x');
        dueThrow("letter(0, 8)", INDEX, () -> x.letter(0, 8));
        dueThrow("letter(1, 1)", INDEX, () -> x.letter(1, 1));
        dueThrow("letter(2, 0)", INDEX, () -> x.letter(2, 0));
        for (int number : WRONG) {
            dueThrow("letter(0, " + number + ")", INDEX, () -> x.letter(0, number));
            dueThrow("letter(" + number + ", 0)", INDEX, () -> x.letter(number, 0));
        }
        x.type('q');
        dueThrow("a draft is no tag", INDEX, () -> x.letter(2, 0));
    }

    private static void promise06And07Things() {
        promise = "6 and 7 things";
        TagRoot x = keeper(1, 0);
        for (int thing = 0; thing < 20; thing++) {
            due("things()", x.things(), thing);
            due("addThing()", x.addThing(), thing);
            due("hand of a new thing", x.hand(thing), 0);
            dueShown(x, thing, 0);
        }
        due("things()", x.things(), 20);
        dueThrow("a 21st thing", STATE, x::addThing);
        due("things()", x.things(), 20);
        due("tag of the last thing", x.tag(19, 0), true);
        due("users(0)", x.users(0), 1);
        due("match(0, 1, 0, 0)", x.match(0, 1, 0, 0), 19);
    }

    // ---- tags that are set by hand

    private static void promise08Tag() {
        promise = "8 tag";
        TagRoot x = keeper(3, 2);
        due("tag(1, 2)", x.tag(1, 2), true);
        due("tag(1, 2) again", x.tag(1, 2), false);
        due("hand(1)", x.hand(1), 4);
        due("hand(0)", x.hand(0), 0);
        due("kept()", x.kept(), 1);
        make(x, TagRoot.ALIAS, 0, 2);
        due("a tag with an alias", x.tag(1, 0), true);
        due("hand(1)", x.hand(1), 5);
        dueShown(x, 1, 4);
        make(x, TagRoot.IMPLY, 2, 1);
        due("a tag that is shown, but not by hand", x.tag(1, 1), true);
        due("hand(1)", x.hand(1), 7);
        dueThrow("tag(2, 0)", INDEX, () -> x.tag(2, 0));
        dueThrow("tag(0, 3)", INDEX, () -> x.tag(0, 3));
        for (int number : WRONG) {
            dueThrow("tag(0, " + number + ")", INDEX, () -> x.tag(0, number));
            dueThrow("tag(" + number + ", 0)", INDEX, () -> x.tag(number, 0));
        }
    }

    private static void promise09Untag() {
        promise = "9 untag";
        TagRoot x = keeper(3, 2);
        due("a tag that is not set", x.untag(0, 0), false);
        due("kept()", x.kept(), 0);
        x.tag(0, 0);
        x.tag(0, 2);
        x.tag(1, 0);
        due("untag(0, 0)", x.untag(0, 0), true);
        due("untag(0, 0) again", x.untag(0, 0), false);
        due("hand(0)", x.hand(0), 4);
        due("hand(1)", x.hand(1), 1);
        due("kept()", x.kept(), 4);
        make(x, TagRoot.IMPLY, 2, 1);
        due("a tag that is shown, but not by hand", x.untag(0, 1), false);
        make(x, TagRoot.ALIAS, 0, 2);
        due("the end of a tag that is set", x.untag(1, 2), false);
        due("untag(1, 0)", x.untag(1, 0), true);
        dueShown(x, 1, 0);
        dueThrow("untag(2, 0)", INDEX, () -> x.untag(2, 0));
        dueThrow("untag(0, 3)", INDEX, () -> x.untag(0, 3));
        for (int number : WRONG) {
            dueThrow("untag(0, " + number + ")", INDEX, () -> x.untag(0, number));
            dueThrow("untag(" + number + ", 0)", INDEX, () -> x.untag(number, 0));
        }
    }

    private static void promise10Mass() {
        promise = "10 mass";
        TagRoot x = keeper(5, 4);
        make(x, TagRoot.ALIAS, 0, 1);
        make(x, TagRoot.IMPLY, 2, 1);
        x.tag(0, 0);
        x.tag(1, 1);
        x.tag(2, 2);
        x.tag(3, 4);
        due("ADD for all that show the end", x.mass(TagRoot.ADD, 0, 3), 3);
        due("hand(0)", x.hand(0), 1 + 8);
        due("hand(1)", x.hand(1), 2 + 8);
        due("hand(2)", x.hand(2), 4 + 8);
        due("hand(3)", x.hand(3), 16);
        due("ADD again", x.mass(TagRoot.ADD, 1, 3), 0);
        due("ADD of the same", x.mass(TagRoot.ADD, 1, 1), 2);
        due("hand(0)", x.hand(0), 1 + 2 + 8);
        x.undo();
        due("ADD of a tag with an alias sets this tag", x.mass(TagRoot.ADD, 4, 0), 1);
        due("hand(3)", x.hand(3), 1 + 16);
        x.undo();
        due("TAKE", x.mass(TagRoot.TAKE, 0, 3), 3);
        due("TAKE again", x.mass(TagRoot.TAKE, 0, 3), 0);
        due("TAKE takes this tag, not its end", x.mass(TagRoot.TAKE, 1, 0), 1);
        due("hand(0)", x.hand(0), 0);
        due("hand(1)", x.hand(1), 2);
        x.undo();
        due("TAKE of the same", x.mass(TagRoot.TAKE, 1, 1), 1);
        due("hand(1)", x.hand(1), 0);
        due("hand(2)", x.hand(2), 4);
        x.undo();
        due("REPLACE of a tag that is set by hand", x.mass(TagRoot.REPLACE, 1, 4), 1);
        due("hand(0)", x.hand(0), 1);
        due("hand(1)", x.hand(1), 16);
        due("hand(2)", x.hand(2), 4);
        due("REPLACE by the same", x.mass(TagRoot.REPLACE, 4, 4), 0);
        due("REPLACE by a tag that is set already", x.tag(1, 3), true);
        due("REPLACE by a tag that is set already", x.mass(TagRoot.REPLACE, 4, 3), 2);
        due("hand(1)", x.hand(1), 8);
        due("hand(3)", x.hand(3), 8);
        due("REPLACE of a tag with an alias", x.mass(TagRoot.REPLACE, 0, 2), 1);
        due("hand(0)", x.hand(0), 4);
        dueThrow("mass(-1, 0, 0)", ARGUMENT, () -> x.mass(-1, 0, 0));
        dueThrow("mass(3, 0, 0)", ARGUMENT, () -> x.mass(3, 0, 0));
        for (int number : WRONG) {
            dueThrow("mass(0, " + number + ", 0)", INDEX, () -> x.mass(0, number, 0));
            dueThrow("mass(0, 0, " + number + ")", INDEX, () -> x.mass(0, 0, number));
            dueThrow("mass(7, 0, " + number + ")", INDEX, () -> x.mass(7, 0, number));
            dueThrow("mass(" + number + ", 0, 0)", ARGUMENT, () -> x.mass(number, 0, 0));
        }
        dueThrow("mass(2, 5, 0)", INDEX, () -> x.mass(2, 5, 0));
        dueThrow("mass(2, 0, 5)", INDEX, () -> x.mass(2, 0, 5));
    }

    private static void promise10MassSeesWhatWasShownAhead() {
        promise = "10 mass, what is shown ahead";
        TagRoot x = keeper(2, 20);
        for (int thing = 0; thing < 20; thing++) {
            if (thing % 2 == 0) {
                x.tag(thing, 0);
            }
        }
        due("TAKE of the tag itself", x.mass(TagRoot.TAKE, 0, 0), 10);
        due("users(0)", x.users(0), 0);
        due("undo()", x.undo(), 10);
        due("users(0)", x.users(0), 10);
        due("ADD without any that show it", x.mass(TagRoot.ADD, 1, 0), 0);
        due("REPLACE", x.mass(TagRoot.REPLACE, 0, 1), 10);
        due("users(1)", x.users(1), 10);
        due("users(0)", x.users(0), 0);
    }

    private static void promise11Undo() {
        promise = "11 undo";
        TagRoot x = keeper(3, 2);
        dueThrow("undo() without a change", STATE, x::undo);
        x.tag(0, 0);
        x.tag(0, 0);
        x.tag(1, 1);
        make(x, TagRoot.IMPLY, 0, 2);
        x.mass(TagRoot.ADD, 2, 1);
        x.addThing();
        x.mass(TagRoot.REPLACE, 1, 0);
        due("hand(0)", x.hand(0), 1);
        due("undo() of a replacement", x.undo(), 2);
        due("hand(0)", x.hand(0), 3);
        due("hand(1)", x.hand(1), 2);
        due("undo() of an addition", x.undo(), 1);
        due("hand(0)", x.hand(0), 1);
        due("undo() of a tag", x.undo(), 1);
        due("hand(1)", x.hand(1), 0);
        dueShown(x, 0, 5);
        x.untag(0, 0);
        due("undo() of an untag", x.undo(), 1);
        due("hand(0)", x.hand(0), 1);
        due("undo() of the first change", x.undo(), 1);
        dueShown(x, 0, 0);
        due("rules stay", x.implies(0, 2), true);
        due("things stay", x.things(), 3);
        dueThrow("undo() with none left", STATE, x::undo);
        undoInRing();
    }

    private static void undoInRing() {
        TagRoot x = keeper(24, 2);
        for (int tag = 0; tag < 24; tag++) {
            x.tag(0, tag);
            due("kept()", x.kept(), Math.min(tag + 1, 20));
        }
        x.tag(0, 3);
        x.untag(1, 3);
        x.mass(TagRoot.TAKE, 0, 0);
        due("undo()", x.undo(), 1);
        for (int tag = 23; tag > 4; tag--) {
            due("undo() of tag " + tag, x.undo(), 1);
            due("hand(0)", x.hand(0), (1 << tag) - 1);
        }
        due("kept()", x.kept(), 0);
        dueThrow("the older ones are forgotten", STATE, x::undo);
        due("hand(0)", x.hand(0), 31);
        x.tag(1, 7);
        due("undo() of a change behind it", x.undo(), 1);
        due("hand(1)", x.hand(1), 0);
        due("kept()", x.kept(), 0);
    }

    private static void promise12Kept() {
        promise = "12 kept";
        TagRoot x = keeper(2, 1);
        for (int change = 0; change < 45; change++) {
            due("kept()", x.kept(), Math.min(change, 20));
            if (change % 2 == 0) {
                x.tag(0, 1);
            } else {
                x.untag(0, 1);
            }
        }
        due("kept()", x.kept(), 20);
        x.tag(0, 1);
        x.untag(0, 0);
        x.mass(TagRoot.ADD, 0, 1);
        due("changes of nothing", x.kept(), 20);
        x.undo();
        due("behind undo()", x.kept(), 19);
        make(x, TagRoot.IMPLY, 0, 1);
        x.addThing();
        enter(x, "zz");
        due("what is no change by hand", x.kept(), 19);
        x.tag(0, 0);
        x.tag(1, 1);
        due("again 20", x.kept(), 20);
        for (int left = 19; left >= 0; left--) {
            x.undo();
            due("behind undo()", x.kept(), left);
        }
    }

    private static void promise13Hand() {
        promise = "13 hand";
        TagRoot x = keeper(24, 20);
        int want = 0;
        for (int tag = 0; tag < 24; tag++) {
            x.tag(19, tag);
            want += 1 << tag;
            due("hand(19)", x.hand(19), want);
        }
        make(x, TagRoot.ALIAS, 3, 4);
        due("an alias leaves it", x.hand(19), want);
        due("hand(18)", x.hand(18), 0);
        dueThrow("hand(20)", INDEX, () -> x.hand(20));
        for (int number : WRONG) {
            dueThrow("hand(" + number + ")", INDEX, () -> x.hand(number));
        }
    }

    // ---- rules

    private static void promise14Ask() {
        promise = "14 ask";
        TagRoot x = keeper(3, 0);
        dueThrow("ask(0, 1, 1)", ARGUMENT, () -> x.ask(0, 1, 1));
        dueThrow("ask(-1, 0, 1)", ARGUMENT, () -> x.ask(-1, 0, 1));
        dueThrow("ask(4, 0, 1)", ARGUMENT, () -> x.ask(4, 0, 1));
        dueThrow("ask(0, 3, 0)", INDEX, () -> x.ask(0, 3, 0));
        dueThrow("ask(0, 0, 3)", INDEX, () -> x.ask(0, 0, 3));
        dueThrow("ask(9, 3, 3)", INDEX, () -> x.ask(9, 3, 3));
        for (int request = 0; request < 40; request++) {
            due("ask", x.ask(request % 4, request % 3, (request + 1) % 3), request);
            due("standing", x.standing(request), TagRoot.OPEN);
        }
        dueThrow("a 41st request", STATE, () -> x.ask(0, 0, 1));
        dueThrow("a 41st request of no kind", ARGUMENT, () -> x.ask(4, 0, 1));
        dueThrow("a 41st request from a tag to itself", ARGUMENT, () -> x.ask(0, 1, 1));
        dueThrow("a 41st request to no tag", INDEX, () -> x.ask(0, 1, 3));
        for (int number : WRONG) {
            dueThrow("ask(0, " + number + ", 0)", INDEX, () -> x.ask(0, number, 0));
            dueThrow("ask(0, 0, " + number + ")", INDEX, () -> x.ask(0, 0, number));
        }
        due("a request without votes changes nothing", x.alias(0), TagRoot.NONE);
    }

    private static void promise15Vote() {
        promise = "15 vote";
        TagRoot x = keeper(3, 1);
        x.tag(0, 0);
        int request = x.ask(TagRoot.IMPLY, 0, 1);
        due("for, 1 : 0", x.vote(request, 0, true), TagRoot.OPEN);
        due("the same voter again", x.vote(request, 0, true), TagRoot.OPEN);
        due("and again", x.vote(request, 0, true), TagRoot.OPEN);
        due("for, 2 : 0", x.vote(request, 9, true), TagRoot.OPEN);
        due("against, 2 : 1", x.vote(request, 5, false), TagRoot.OPEN);
        due("for, 3 : 1", x.vote(request, 4, true), TagRoot.OPEN);
        dueShown(x, 0, 1);
        due("the vote against becomes one for, 4 : 0", x.vote(request, 5, true), TagRoot.PASSED);
        due("it is done at once", x.implies(0, 1), true);
        dueShown(x, 0, 3);
        dueThrow("it is not open", STATE, () -> x.vote(request, 7, true));
        dueThrow("it is not open, and no voter", ARGUMENT, () -> x.vote(request, 10, true));
        int second = x.ask(TagRoot.IMPLY, 1, 2);
        due("against, 0 : 1", x.vote(second, 0, false), TagRoot.OPEN);
        due("the same again", x.vote(second, 0, false), TagRoot.OPEN);
        due("against, 0 : 2", x.vote(second, 1, false), TagRoot.OPEN);
        due("for, 1 : 2", x.vote(second, 2, true), TagRoot.OPEN);
        due("against, 1 : 3", x.vote(second, 3, false), TagRoot.OPEN);
        due("the vote for becomes one against, 0 : 4", x.vote(second, 2, false), TagRoot.FAILED);
        due("implies(1, 2)", x.implies(1, 2), false);
        dueThrow("it has failed", STATE, () -> x.vote(second, 7, true));
        dueThrow("no such request", INDEX, () -> x.vote(2, 0, true));
        dueThrow("no such request, and no voter", INDEX, () -> x.vote(2, 10, true));
        int third = x.ask(TagRoot.ALIAS, 0, 2);
        dueThrow("voter 10", ARGUMENT, () -> x.vote(third, 10, true));
        for (int number : WRONG) {
            dueThrow("voter " + number, ARGUMENT, () -> x.vote(third, number, true));
            dueThrow("request " + number, INDEX, () -> x.vote(number, 0, true));
        }
        due("votes of other requests do not count", x.vote(third, 1, true), TagRoot.OPEN);
        for (int voter = 2; voter < 6; voter++) {
            due("even votes", x.vote(third, voter, voter % 2 == 1), TagRoot.OPEN);
        }
        due("still open", x.vote(third, 6, true), TagRoot.OPEN);
        due("3 more for it", x.vote(third, 2, true), TagRoot.PASSED);
        due("alias(0)", x.alias(0), 2);
    }

    private static void promise15VoteThatCannotPass() {
        promise = "15 vote that cannot pass";
        TagRoot x = keeper(3, 1);
        make(x, TagRoot.IMPLY, 0, 1);
        due("an implication that there is", pass(x, TagRoot.IMPLY, 0, 1), TagRoot.FAILED);
        due("an implication in a circle", pass(x, TagRoot.IMPLY, 1, 0), TagRoot.FAILED);
        due("an alias in a circle", pass(x, TagRoot.ALIAS, 0, 1), TagRoot.FAILED);
        due("to lift no implication", pass(x, TagRoot.LIFT_IMPLY, 1, 0), TagRoot.FAILED);
        due("to lift no alias", pass(x, TagRoot.LIFT_ALIAS, 0, 1), TagRoot.FAILED);
        due("implies(1, 0)", x.implies(1, 0), false);
        due("implies(0, 1)", x.implies(0, 1), true);
        due("alias(0)", x.alias(0), TagRoot.NONE);
        int late = x.ask(TagRoot.IMPLY, 1, 0);
        x.vote(late, 0, true);
        x.vote(late, 1, true);
        due("couldPass so far", x.couldPass(late), false);
        make(x, TagRoot.LIFT_IMPLY, 0, 1);
        due("what counts is whether it can then", x.vote(late, 2, true), TagRoot.PASSED);
        due("implies(1, 0)", x.implies(1, 0), true);
    }

    private static void promise16Standing() {
        promise = "16 standing";
        TagRoot x = keeper(3, 0);
        int request = x.ask(TagRoot.ALIAS, 0, 1);
        int other = x.ask(TagRoot.ALIAS, 0, 2);
        due("standing", x.standing(request), TagRoot.OPEN);
        x.vote(request, 0, true);
        x.vote(request, 1, true);
        due("standing", x.standing(request), TagRoot.OPEN);
        x.vote(request, 2, true);
        due("standing", x.standing(request), TagRoot.PASSED);
        due("a request that cannot pass any more stays open", x.standing(other), TagRoot.OPEN);
        make(x, TagRoot.LIFT_ALIAS, 0, 1);
        due("a lifted rule's request has passed", x.standing(request), TagRoot.PASSED);
        for (int voter = 0; voter < 3; voter++) {
            x.vote(other, voter, false);
        }
        due("standing", x.standing(other), TagRoot.FAILED);
        dueThrow("standing(3)", INDEX, () -> x.standing(3));
        for (int number : WRONG) {
            dueThrow("standing(" + number + ")", INDEX, () -> x.standing(number));
        }
    }

    private static void promise17CouldPassAlias() {
        promise = "17 couldPass, alias";
        TagRoot x = keeper(6, 0);
        due("an alias", can(x, TagRoot.ALIAS, 0, 1), true);
        make(x, TagRoot.ALIAS, 0, 1);
        due("the tag has an alias", can(x, TagRoot.ALIAS, 0, 2), false);
        due("an alias back", can(x, TagRoot.ALIAS, 1, 0), false);
        make(x, TagRoot.ALIAS, 1, 2);
        due("a longer way back", can(x, TagRoot.ALIAS, 2, 0), false);
        due("to a tag with an alias", can(x, TagRoot.ALIAS, 3, 0), true);
        make(x, TagRoot.IMPLY, 0, 3);
        make(x, TagRoot.IMPLY, 3, 4);
        due("implied over several", can(x, TagRoot.ALIAS, 4, 1), false);
        due("implying over several", can(x, TagRoot.ALIAS, 2, 4), false);
        due("implied at once", can(x, TagRoot.ALIAS, 3, 0), false);
        due("aside", can(x, TagRoot.ALIAS, 5, 4), true);
        due("aside, back", can(x, TagRoot.ALIAS, 4, 5), true);
        TagRoot y = keeper(2, 0);
        int request = y.ask(TagRoot.ALIAS, 0, 1);
        y.vote(request, 0, false);
        y.vote(request, 1, false);
        due("whatever its votes", y.couldPass(request), true);
        y.vote(request, 2, false);
        due("not open", y.couldPass(request), false);
        dueThrow("couldPass(1)", INDEX, () -> y.couldPass(1));
        for (int number : WRONG) {
            dueThrow("couldPass(" + number + ")", INDEX, () -> y.couldPass(number));
        }
    }

    private static void promise17CouldPassImply() {
        promise = "17 couldPass, imply";
        TagRoot x = keeper(7, 0);
        make(x, TagRoot.IMPLY, 0, 1);
        make(x, TagRoot.IMPLY, 1, 2);
        due("there is one", can(x, TagRoot.IMPLY, 0, 1), false);
        due("back", can(x, TagRoot.IMPLY, 1, 0), false);
        due("back over several", can(x, TagRoot.IMPLY, 2, 0), false);
        due("a short cut", can(x, TagRoot.IMPLY, 0, 2), true);
        make(x, TagRoot.ALIAS, 3, 0);
        due("the same as it acts, but not as asked for", can(x, TagRoot.IMPLY, 3, 1), true);
        due("between a tag and its alias", can(x, TagRoot.IMPLY, 3, 0), false);
        due("between a tag and its alias, back", can(x, TagRoot.IMPLY, 0, 3), false);
        due("back to a tag with an alias", can(x, TagRoot.IMPLY, 2, 3), false);
        make(x, TagRoot.ALIAS, 4, 3);
        due("between two tags of the same end", can(x, TagRoot.IMPLY, 4, 3), false);
        due("back over two aliases", can(x, TagRoot.IMPLY, 1, 4), false);
        int request = x.ask(TagRoot.IMPLY, 2, 4);
        due("a circle", x.couldPass(request), false);
        make(x, TagRoot.LIFT_ALIAS, 4, 3);
        due("no circle any more", x.couldPass(request), true);
    }

    private static void promise17CouldPassLift() {
        promise = "17 couldPass, lift";
        TagRoot x = keeper(4, 0);
        due("no alias", can(x, TagRoot.LIFT_ALIAS, 0, 1), false);
        due("no implication", can(x, TagRoot.LIFT_IMPLY, 0, 1), false);
        make(x, TagRoot.ALIAS, 0, 1);
        make(x, TagRoot.ALIAS, 1, 2);
        make(x, TagRoot.IMPLY, 0, 3);
        due("the alias", can(x, TagRoot.LIFT_ALIAS, 0, 1), true);
        due("an end, but not the alias", can(x, TagRoot.LIFT_ALIAS, 0, 2), false);
        due("the alias the other way round", can(x, TagRoot.LIFT_ALIAS, 1, 0), false);
        due("the implication", can(x, TagRoot.LIFT_IMPLY, 0, 3), true);
        due("as it acts, but not as asked for", can(x, TagRoot.LIFT_IMPLY, 2, 3), false);
        due("the implication the other way round", can(x, TagRoot.LIFT_IMPLY, 3, 0), false);
        make(x, TagRoot.LIFT_IMPLY, 0, 3);
        due("implies(0, 3)", x.implies(0, 3), false);
        make(x, TagRoot.LIFT_ALIAS, 0, 1);
        due("alias(0)", x.alias(0), TagRoot.NONE);
        due("alias(1)", x.alias(1), 2);
        due("to lift it again", pass(x, TagRoot.LIFT_ALIAS, 0, 1), TagRoot.FAILED);
    }

    private static void promise18Clashes() {
        promise = "18 clashes";
        TagRoot x = keeper(5, 0);
        int there = x.ask(TagRoot.IMPLY, 0, 1);
        due("alone", x.clashes(there), 0);
        int back = x.ask(TagRoot.IMPLY, 1, 0);
        due("the way back", x.clashes(there), 1);
        due("the way back, from there", x.clashes(back), 1);
        int twice = x.ask(TagRoot.IMPLY, 0, 1);
        due("the same once more", x.clashes(twice), 2);
        int aside = x.ask(TagRoot.IMPLY, 2, 3);
        due("aside", x.clashes(aside), 0);
        int lift = x.ask(TagRoot.LIFT_IMPLY, 0, 1);
        due("what cannot pass clashes with nothing", x.clashes(lift), 0);
        for (int voter = 0; voter < 3; voter++) {
            x.vote(there, voter, true);
        }
        due("not open", x.clashes(there), 0);
        due("cannot pass any more", x.clashes(back), 0);
        due("cannot pass any more", x.clashes(twice), 0);
        int again = x.ask(TagRoot.LIFT_IMPLY, 0, 1);
        due("to lift the same twice", x.clashes(lift), 1);
        due("to lift the same twice", x.clashes(again), 1);
        int far = x.ask(TagRoot.IMPLY, 3, 4);
        int close = x.ask(TagRoot.ALIAS, 4, 2);
        due("a circle needs all three", x.clashes(far), 0);
        due("a circle needs all three", x.clashes(close), 0);
        due("a circle needs all three", x.clashes(aside), 0);
        for (int voter = 0; voter < 3; voter++) {
            x.vote(aside, voter, true);
        }
        due("two of them are left", x.clashes(far), 1);
        due("two of them are left", x.clashes(close), 1);
        dueThrow("clashes(8)", INDEX, () -> x.clashes(8));
        for (int number : WRONG) {
            dueThrow("clashes(" + number + ")", INDEX, () -> x.clashes(number));
        }
        clashesOfAliases();
        clashesOf40();
    }

    private static void clashesOfAliases() {
        TagRoot x = keeper(4, 0);
        int first = x.ask(TagRoot.ALIAS, 0, 1);
        int second = x.ask(TagRoot.ALIAS, 0, 2);
        int third = x.ask(TagRoot.ALIAS, 1, 2);
        int fourth = x.ask(TagRoot.ALIAS, 1, 0);
        due("two aliases of one tag, and one back", x.clashes(first), 2);
        due("two aliases of one tag", x.clashes(second), 1);
        due("a longer way is no clash", x.clashes(third), 1);
        due("back, and two of one tag", x.clashes(fourth), 2);
        for (int voter = 0; voter < 3; voter++) {
            x.vote(third, voter, true);
        }
        due("behind a rule", x.clashes(first), 1);
        due("behind a rule", x.clashes(second), 1);
        due("cannot pass", x.clashes(fourth), 0);
        int lift = x.ask(TagRoot.LIFT_ALIAS, 1, 2);
        due("a lift takes nothing from others", x.clashes(lift), 0);
        x.vote(first, 3, false);
        due("votes do not matter", x.clashes(second), 1);
    }

    private static void clashesOf40() {
        TagRoot x = keeper(24, 0);
        for (int request = 0; request < 40; request++) {
            x.ask(TagRoot.ALIAS, 23, request % 23);
        }
        due("clashes with 39 others", x.clashes(39), 39);
        due("clashes with 39 others", x.clashes(0), 39);
    }

    private static void promise19And20AliasAndEnd() {
        promise = "19 and 20 alias and end";
        TagRoot x = keeper(24, 0);
        for (int tag = 0; tag < 23; tag++) {
            due("alias", x.alias(tag), TagRoot.NONE);
            due("end", x.end(tag), tag);
        }
        for (int tag = 0; tag < 23; tag++) {
            make(x, TagRoot.ALIAS, tag, tag + 1);
        }
        for (int tag = 0; tag < 23; tag++) {
            due("alias(" + tag + ")", x.alias(tag), tag + 1);
            due("end(" + tag + ")", x.end(tag), 23);
        }
        due("alias(23)", x.alias(23), TagRoot.NONE);
        due("end(23)", x.end(23), 23);
        due("a circle of 24", can(x, TagRoot.ALIAS, 23, 0), false);
        make(x, TagRoot.LIFT_ALIAS, 11, 12);
        due("end(0)", x.end(0), 11);
        due("end(12)", x.end(12), 23);
        dueThrow("alias(24)", INDEX, () -> x.alias(24));
        dueThrow("end(24)", INDEX, () -> x.end(24));
        for (int number : WRONG) {
            dueThrow("alias(" + number + ")", INDEX, () -> x.alias(number));
            dueThrow("end(" + number + ")", INDEX, () -> x.end(number));
        }
    }

    private static void promise21Implies() {
        promise = "21 implies";
        TagRoot x = keeper(4, 0);
        due("implies(0, 1)", x.implies(0, 1), false);
        make(x, TagRoot.IMPLY, 0, 1);
        make(x, TagRoot.IMPLY, 1, 2);
        make(x, TagRoot.ALIAS, 1, 3);
        due("implies(0, 1)", x.implies(0, 1), true);
        due("the other way round", x.implies(1, 0), false);
        due("over several", x.implies(0, 2), false);
        due("as it acts", x.implies(0, 3), false);
        due("as it acts", x.implies(3, 2), false);
        due("a tag and itself", x.implies(0, 0), false);
        make(x, TagRoot.LIFT_IMPLY, 0, 1);
        due("lifted", x.implies(0, 1), false);
        due("the other one stays", x.implies(1, 2), true);
        dueThrow("implies(4, 0)", INDEX, () -> x.implies(4, 0));
        dueThrow("implies(0, 4)", INDEX, () -> x.implies(0, 4));
        for (int number : WRONG) {
            dueThrow("implies(0, " + number + ")", INDEX, () -> x.implies(0, number));
            dueThrow("implies(" + number + ", 0)", INDEX, () -> x.implies(number, 0));
        }
    }

    // ---- what is shown

    private static void promise22And23Shown() {
        promise = "22 and 23 shown";
        TagRoot x = keeper(6, 3);
        x.tag(0, 0);
        x.tag(1, 3);
        dueShown(x, 0, 1);
        make(x, TagRoot.IMPLY, 2, 3);
        make(x, TagRoot.IMPLY, 0, 1);
        make(x, TagRoot.IMPLY, 1, 2);
        dueShown(x, 0, 15);
        dueShown(x, 1, 8);
        dueShown(x, 2, 0);
        make(x, TagRoot.ALIAS, 3, 4);
        dueShown(x, 0, 1 + 2 + 4 + 16);
        dueShown(x, 1, 16);
        make(x, TagRoot.ALIAS, 1, 5);
        dueShown(x, 0, 1 + 32 + 4 + 16);
        make(x, TagRoot.LIFT_ALIAS, 3, 4);
        dueShown(x, 0, 1 + 32 + 4 + 8);
        dueShown(x, 1, 8);
        x.addThing();
        x.tag(3, 5);
        dueShown(x, 3, 32 + 4 + 8);
        x.untag(3, 5);
        dueShown(x, 3, 0);
        x.undo();
        dueShown(x, 3, 32 + 4 + 8);
        dueThrow("shown(4)", INDEX, () -> x.shown(4));
        dueThrow("shownByHand(4)", INDEX, () -> x.shownByHand(4));
        for (int number : WRONG) {
            dueThrow("shown(" + number + ")", INDEX, () -> x.shown(number));
            dueThrow("shownByHand(" + number + ")", INDEX, () -> x.shownByHand(number));
        }
        TagRoot middle = keeper(3, 1);
        middle.tag(0, 1);
        make(middle, TagRoot.IMPLY, 1, 0);
        make(middle, TagRoot.IMPLY, 0, 2);
        dueShown(middle, 0, 7);
        TagRoot chain = keeper(24, 20);
        chain.tag(19, 23);
        for (int tag = 23; tag > 0; tag--) {
            make(chain, TagRoot.IMPLY, tag, tag - 1);
        }
        dueShown(chain, 19, (1 << 24) - 1);
        dueShown(chain, 18, 0);
    }

    private static void promise22LiftedRulesTakeOnlyTheirOwn() {
        promise = "22 what lifted rules take";
        TagRoot x = keeper(4, 3);
        make(x, TagRoot.IMPLY, 0, 1);
        make(x, TagRoot.IMPLY, 2, 1);
        make(x, TagRoot.IMPLY, 1, 3);
        x.tag(0, 0);
        x.tag(1, 0);
        x.tag(1, 1);
        x.tag(2, 0);
        x.tag(2, 2);
        make(x, TagRoot.LIFT_IMPLY, 0, 1);
        dueShown(x, 0, 1);
        dueShown(x, 1, 1 + 2 + 8);
        dueShown(x, 2, 1 + 2 + 4 + 8);
        due("hand(1)", x.hand(1), 3);
        make(x, TagRoot.ALIAS, 0, 2);
        dueShown(x, 0, 4 + 2 + 8);
        make(x, TagRoot.IMPLY, 0, 1);
        make(x, TagRoot.LIFT_IMPLY, 2, 1);
        dueShown(x, 2, 4 + 2 + 8);
        make(x, TagRoot.LIFT_IMPLY, 0, 1);
        dueShown(x, 2, 4);
        dueShown(x, 1, 4 + 2 + 8);
    }

    private static void promise24Users() {
        promise = "24 users";
        TagRoot x = keeper(3, 20);
        due("users(0)", x.users(0), 0);
        for (int thing = 0; thing < 20; thing++) {
            x.tag(thing, 0);
            due("users(0)", x.users(0), thing + 1);
        }
        make(x, TagRoot.IMPLY, 0, 1);
        due("users(1)", x.users(1), 20);
        x.tag(4, 1);
        due("a thing counts once", x.users(1), 20);
        make(x, TagRoot.ALIAS, 0, 2);
        due("a tag with an alias", x.users(0), 0);
        due("its end", x.users(2), 20);
        x.untag(4, 0);
        due("users(2)", x.users(2), 19);
        due("users(1)", x.users(1), 20);
        make(x, TagRoot.LIFT_ALIAS, 0, 2);
        due("users(0)", x.users(0), 19);
        due("users(2)", x.users(2), 0);
        dueThrow("users(3)", INDEX, () -> x.users(3));
        for (int number : WRONG) {
            dueThrow("users(" + number + ")", INDEX, () -> x.users(number));
        }
    }

    private static void promise25Reason() {
        promise = "25 reason";
        TagRoot x = keeper(7, 2);
        x.tag(0, 3);
        due("by hand", x.reason(0, 3), 3);
        due("not shown", x.reason(0, 2), TagRoot.NONE);
        due("another thing", x.reason(1, 3), TagRoot.NONE);
        make(x, TagRoot.IMPLY, 3, 4);
        make(x, TagRoot.IMPLY, 4, 5);
        make(x, TagRoot.IMPLY, 5, 6);
        due("over three", x.reason(0, 6), 303);
        make(x, TagRoot.IMPLY, 3, 5);
        due("the least number", x.reason(0, 6), 203);
        x.tag(0, 0);
        make(x, TagRoot.IMPLY, 0, 4);
        due("the lowest of several", x.reason(0, 4), 100);
        due("the nearest, not the lowest", x.reason(0, 5), 103);
        x.tag(0, 5);
        due("the nearest is one by hand", x.reason(0, 5), 5);
        due("the nearest is one by hand", x.reason(0, 6), 105);
        make(x, TagRoot.ALIAS, 1, 3);
        due("an alias that is not set", x.reason(0, 3), 3);
        x.tag(0, 1);
        due("an alias that is set is the lowest", x.reason(0, 3), 1);
        due("a tag with an alias is not shown", x.reason(0, 1), TagRoot.NONE);
        make(x, TagRoot.ALIAS, 5, 2);
        due("the end of a tag by hand", x.reason(0, 2), 5);
        due("a tag that has an alias now", x.reason(0, 5), TagRoot.NONE);
        due("over an implication from an alias", x.reason(0, 6), 105);
        dueThrow("reason(2, 0)", INDEX, () -> x.reason(2, 0));
        dueThrow("reason(0, 7)", INDEX, () -> x.reason(0, 7));
        for (int number : WRONG) {
            dueThrow("reason(0, " + number + ")", INDEX, () -> x.reason(0, number));
            dueThrow("reason(" + number + ", 0)", INDEX, () -> x.reason(number, 0));
        }
        TagRoot chain = keeper(24, 1);
        chain.tag(0, 23);
        for (int tag = 23; tag > 0; tag--) {
            make(chain, TagRoot.IMPLY, tag, tag - 1);
        }
        due("over 23 implications", chain.reason(0, 0), 2323);
    }

    private static TagRoot sorted() {
        TagRoot x = keeper(5, 6);
        x.tag(1, 0);
        x.tag(2, 0);
        x.tag(2, 1);
        x.tag(3, 1);
        x.tag(3, 2);
        x.tag(4, 0);
        x.tag(4, 1);
        x.tag(4, 2);
        make(x, TagRoot.ALIAS, 3, 0);
        x.tag(5, 3);
        return x;
    }

    private static void promise26Count() {
        promise = "26 count";
        TagRoot x = sorted();
        due("no sets", x.count(0, 0, 0), 6);
        due("all of one", x.count(1, 0, 0), 4);
        due("all of two", x.count(3, 0, 0), 2);
        due("all of three", x.count(7, 0, 0), 1);
        due("any of one", x.count(0, 2, 0), 3);
        due("any of two", x.count(0, 3, 0), 5);
        due("none of one", x.count(0, 0, 1), 2);
        due("none of two", x.count(0, 0, 3), 1);
        due("all and none", x.count(1, 0, 4), 3);
        due("all and any", x.count(1, 6, 0), 2);
        due("all, any and none", x.count(1, 6, 4), 1);
        due("all and none of the same", x.count(1, 0, 1), 0);
        due("an alias in all", x.count(8, 0, 0), 4);
        due("an alias in any", x.count(0, 8, 0), 4);
        due("an alias in none", x.count(0, 0, 8), 2);
        due("an alias and its end in all", x.count(9, 0, 0), 4);
        due("any of a tag that nothing shows", x.count(0, 16, 0), 0);
        due("none of a tag that nothing shows", x.count(0, 0, 16), 6);
        due("all tags", x.count(31, 31, 31), 0);
        make(x, TagRoot.IMPLY, 2, 4);
        due("a tag that is implied", x.count(16, 0, 0), 2);
        dueThrow("count(32, 0, 0)", ARGUMENT, () -> x.count(32, 0, 0));
        dueThrow("count(0, 33, 0)", ARGUMENT, () -> x.count(0, 33, 0));
        dueThrow("count(0, 0, 63)", ARGUMENT, () -> x.count(0, 0, 63));
        for (int number : WRONG) {
            dueThrow("count(" + number + ", 0, 0)", ARGUMENT, () -> x.count(number, 0, 0));
            dueThrow("count(0, " + number + ", 0)", ARGUMENT, () -> x.count(0, number, 0));
            dueThrow("count(0, 0, " + number + ")", ARGUMENT, () -> x.count(0, 0, number));
        }
        TagRoot full = keeper(24, 20);
        due("all things", full.count(0, 0, (1 << 24) - 1), 20);
        dueThrow("a 25th tag", ARGUMENT, () -> full.count(1 << 24, 0, 0));
    }

    private static void promise27Match() {
        promise = "27 match";
        TagRoot x = sorted();
        int[] withFirst = {1, 2, 4, 5};
        for (int place = 0; place < withFirst.length; place++) {
            due("match(" + place + ", 1, 0, 0)", x.match(place, 1, 0, 0), withFirst[place]);
        }
        due("match(0, 0, 0, 0)", x.match(0, 0, 0, 0), 0);
        due("match(5, 0, 0, 0)", x.match(5, 0, 0, 0), 5);
        due("all, any and none", x.match(0, 1, 6, 4), 2);
        due("none", x.match(1, 0, 0, 1), 3);
        due("an alias", x.match(3, 8, 0, 0), 5);
        dueThrow("match(6, 0, 0, 0)", INDEX, () -> x.match(6, 0, 0, 0));
        dueThrow("match(4, 1, 0, 0)", INDEX, () -> x.match(4, 1, 0, 0));
        dueThrow("nothing is counted", INDEX, () -> x.match(0, 16, 0, 0));
        dueThrow("a set with no tag", ARGUMENT, () -> x.match(0, 32, 0, 0));
        dueThrow("a set with no tag, and a place too far", ARGUMENT, () -> x.match(99, 0, 32, 0));
        dueThrow("a set with no tag, and a place below 0", INDEX, () -> x.match(-1, 0, 0, 32));
        dueThrow("a place below 0", INDEX, () -> x.match(-1, 0, 0, 0));
        for (int number : WRONG) {
            dueThrow("match(" + number + ", 0, 0, 0)", INDEX, () -> x.match(number, 0, 0, 0));
            dueThrow("match(0, " + number + ", 0, 0)", ARGUMENT, () -> x.match(0, number, 0, 0));
            dueThrow("match(0, 0, " + number + ", 0)", ARGUMENT, () -> x.match(0, 0, number, 0));
            dueThrow("match(0, 0, 0, " + number + ")", ARGUMENT, () -> x.match(0, 0, 0, number));
        }
        TagRoot full = keeper(1, 20);
        due("the last of 20", full.match(19, 0, 0, 1), 19);
        dueThrow("match(20, 0, 0, 0)", INDEX, () -> full.match(20, 0, 0, 0));
    }

    private static void fullKeeperAndManyCalls() {
        promise = "512 calls";
        TagRoot x = keeper(24, 20);
        int calls = 24 * 2 + 20;
        for (int tag = 0; tag < 23; tag++) {
            make(x, TagRoot.IMPLY, tag, tag + 1);
            calls += 4;
        }
        for (; calls < 506; calls += 2) {
            int thing = calls / 2 % 20;
            x.tag(thing, 0);
            x.untag(thing, 0);
        }
        x.tag(0, 0);
        dueShown(x, 0, (1 << 24) - 1);
        due("kept()", x.kept(), 20);
        due("reason(0, 23)", x.reason(0, 23), 2300);
    }
}
