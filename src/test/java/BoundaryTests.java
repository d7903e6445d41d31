import java.lang.reflect.InvocationTargetException;
import java.lang.reflect.Method;
import java.util.ArrayList;
import java.util.Arrays;
import java.util.Comparator;
import java.util.HashMap;
import java.util.List;
import java.util.Map;

/**
 * A test of its own for each sentence of the document that names a boundary case, named by the promise's number.
 * Each object gets 512 calls at most, since nothing is promised behind them.
 */
public final class BoundaryTests {
    private static final String INDEX = "IndexOutOfBoundsException";
    private static final String ARGUMENT = "IllegalArgumentException";
    private static final String STATE = "IllegalStateException";
    private static final int PROMISES = 27;
    private static final int MOST_CALLS = 512;
    private static final int ALL_24 = (1 << 24) - 1;

    private static final Map<String, Method> FACE = new HashMap<>();
    private static final Map<String, Object[]> ARGUMENTS = new HashMap<>();

    private static String test = "";
    private static String sentence = "";
    private static int tests = 0;
    private static int checks = 0;
    private static int wrong = 0;

    /** Every method named promise.. is a test, so that none can be left out of a list. */
    public static void main(String[] args) throws IllegalAccessException, InvocationTargetException {
        for (Method method : TagRoot.class.getDeclaredMethods()) {
            FACE.put(method.getName(), method);
        }
        Method[] methods = BoundaryTests.class.getDeclaredMethods();
        Arrays.sort(methods, Comparator.comparing(Method::getName));
        boolean[] isTested = new boolean[PROMISES + 1];
        for (Method method : methods) {
            if (method.getName().startsWith("promise")) {
                test = method.getName();
                sentence = "(no sentence)";
                tests++;
                int before = checks;
                method.invoke(null);
                fault(checks == before, "nothing was looked at");
                isTested[Integer.parseInt(test.substring(7, 9))] = true;
            }
        }
        test = "every promise";
        sentence = "at least one test";
        for (int promise = 1; promise <= PROMISES; promise++) {
            fault(!isTested[promise], "promise " + promise + " has none");
        }
        System.out.println("BoundaryTests: " + tests + " tests, " + checks + " checks, " + wrong + " wrong");
        if (wrong != 0) {
            System.exit(1);
        }
    }

    // ---- calls told as texts

    private static void says(String words) {
        sentence = words;
    }

    private static void fault(boolean isFault, String what) {
        checks++;
        if (isFault) {
            wrong++;
            System.out.println(test + " [" + sentence + "]: " + what);
        }
    }

    /** The answer to a call such as "ask ALIAS 0 1", or the name of the exception that it throws. */
    private static String answer(TagRoot keeper, String call) {
        Method method = FACE.get(call.split(" ", 2)[0]);
        Object[] arguments = ARGUMENTS.computeIfAbsent(call, text -> argumentsOf(method, text));
        try {
            return String.valueOf(method.invoke(keeper, arguments));
        } catch (InvocationTargetException e) {
            return e.getCause().getClass().getSimpleName();
        } catch (IllegalAccessException e) {
            throw new IllegalStateException(e);
        }
    }

    private static Object[] argumentsOf(Method method, String call) {
        String[] words = call.split(" ");
        Class<?>[] types = method.getParameterTypes();
        Object[] arguments = new Object[types.length];
        for (int index = 0; index < types.length; index++) {
            String word = words[index + 1];
            if (types[index] == char.class) {
                arguments[index] = word.length() == 1 ? word.charAt(0) : (char) number(word.substring(1));
            } else if (types[index] == boolean.class) {
                arguments[index] = word.equals("for");
            } else {
                arguments[index] = number(word);
            }
        }
        return arguments;
    }

    private static int number(String word) {
        switch (word) {
            case "MIN": return Integer.MIN_VALUE;
            case "MAX": return Integer.MAX_VALUE;
            case "ALIAS": return TagRoot.ALIAS;
            case "IMPLY": return TagRoot.IMPLY;
            case "LIFT_ALIAS": return TagRoot.LIFT_ALIAS;
            case "LIFT_IMPLY": return TagRoot.LIFT_IMPLY;
            case "ADD": return TagRoot.ADD;
            case "TAKE": return TagRoot.TAKE;
            case "REPLACE": return TagRoot.REPLACE;
            default: return Integer.parseInt(word);
        }
    }

    /** Numbers of which there are none, if there are so many; 32 and 64 are what a shift takes for 0. */
    private static String[] beyond(int count) {
        String shifted = count <= 32 ? "32" : "64";
        return new String[] {"MIN", "-32", "-1", "" + count, "" + (count + 1), shifted, "256", "MAX"};
    }

    /** A run of calls on one object, kept so that it can be made again on others. */
    private static final class Run {
        private final TagRoot keeper = new TagRoot();
        private final List<String> calls = new ArrayList<>();
        private int tags = 0;
        private int things = 0;
        private int requests = 0;

        Run() {
        }

        /** Tags with the names a, b, c and so on. */
        Run(int tags, int things) {
            for (int tag = 0; tag < tags; tag++) {
                due("type " + (char) ('a' + tag), 1);
                due("enter", tag);
            }
            for (int thing = 0; thing < things; thing++) {
                due("addThing", thing);
            }
        }

        void due(String call, Object want) {
            fault(calls.size() >= MOST_CALLS, "more than " + MOST_CALLS + " calls");
            String got = answer(keeper, call);
            int from = Math.max(0, calls.size() - 12);
            fault(!got.equals(String.valueOf(want)), call + " answered " + got + ", due is " + want
                    + ", behind " + calls.subList(from, calls.size()));
            calls.add(call);
            if (!got.endsWith("Exception")) {
                count(call, got);
            }
        }

        /** What there is is counted here, since to ask the object for it would be one call more. */
        private void count(String call, String got) {
            if (call.equals("enter")) {
                tags = Math.max(tags, Integer.parseInt(got) + 1);
            } else if (call.equals("addThing")) {
                things++;
            } else if (call.startsWith("ask")) {
                requests++;
            }
        }

        /** The call must throw just this, and must leave every answer as it was. */
        void refused(String call, String exception) {
            leavesAll(call);
            due(call, exception);
        }

        /** The same for each of several words in the place of the sign ?. */
        void refusedEach(String call, String[] words, String exception) {
            for (String word : words) {
                refused(call.replace("?", word), exception);
            }
        }

        void name(String name, Object want) {
            type(name);
            due("enter", want);
        }

        void type(String text) {
            for (int index = 0; index < text.length(); index++) {
                due("type " + text.charAt(index), index + 1);
            }
        }

        void dueName(int tag, String name) {
            for (int index = 0; index < name.length(); index++) {
                due("letter " + tag + " " + index, name.charAt(index));
            }
            due("letter " + tag + " " + name.length(), INDEX);
        }

        void dueShown(int thing, int set) {
            due("shown " + thing, set);
            due("shownByHand " + thing, set);
        }

        int ask(String rule) {
            due("ask " + rule, requests);
            return requests - 1;
        }

        /** Votes such as "0+ 1+ 2-", told as voters with their sides: the last one leads to the standing. */
        void votes(int request, String votes, int standing) {
            String[] each = votes.split(" ");
            for (int index = 0; index < each.length; index++) {
                String side = each[index].charAt(1) == '+' ? "for" : "against";
                due("vote " + request + " " + each[index].charAt(0) + " " + side,
                        index + 1 < each.length ? TagRoot.OPEN : standing);
            }
        }

        void pass(String rule) {
            votes(ask(rule), "0+ 1+ 2+", TagRoot.PASSED);
        }

        void could(String rule, boolean want) {
            due("couldPass " + ask(rule), want);
        }

        private TagRoot again() {
            TagRoot other = new TagRoot();
            for (String call : calls) {
                answer(other, call);
            }
            return other;
        }

        private void leavesAll(String call) {
            List<String> questions = questions();
            int room = MOST_CALLS - 1 - calls.size();
            fault(room < 50, "too few calls are left to look behind " + call);
            for (int from = 0; from < questions.size() && room > 0; from += room) {
                compare(call, questions.subList(from, Math.min(from + room, questions.size())));
            }
            for (List<String> further : List.of(draftingAndMaking(), undoing(), voting("for"), voting("against"))) {
                compare(call, further.subList(0, Math.max(0, Math.min(room, further.size()))));
            }
        }

        private void compare(String call, List<String> further) {
            TagRoot without = again();
            TagRoot with = again();
            answer(with, call);
            for (String next : further) {
                String want = answer(without, next);
                String got = answer(with, next);
                fault(!got.equals(want), next + " behind the refused " + call + " answered " + got + ", due is " + want);
            }
        }

        private List<String> questions() {
            List<String> list = new ArrayList<>(List.of("tags", "things", "kept", "count 0 0 0"));
            for (int tag = 0; tag <= tags; tag++) {
                list.addAll(List.of("alias " + tag, "end " + tag, "users " + tag, "count 0 0 " + (1 << tag),
                        "count 0 " + (1 << tag) + " 0", "match 0 " + (1 << tag) + " 0 0"));
                for (int index = 0; index <= 8; index++) {
                    list.add("letter " + tag + " " + index);
                }
                for (int other = 0; other < tags; other++) {
                    list.add("implies " + tag + " " + other);
                }
            }
            for (int thing = 0; thing <= things; thing++) {
                list.addAll(List.of("hand " + thing, "shown " + thing, "shownByHand " + thing));
                for (int tag = 0; tag < tags; tag++) {
                    list.add("reason " + thing + " " + tag);
                }
            }
            for (int request = 0; request <= requests; request++) {
                list.addAll(List.of("standing " + request, "couldPass " + request, "clashes " + request));
            }
            return list;
        }

        private List<String> draftingAndMaking() {
            List<String> list = new ArrayList<>();
            list.addAll(List.of("type Q", "type -", "type q", "type q", "type q", "type q", "type q", "type q", "type q"));
            list.addAll(List.of("enter", "tags", "enter"));
            for (int index = 0; index <= 8; index++) {
                list.add("letter " + tags + " " + index);
            }
            for (int thing = 0; thing <= 20; thing++) {
                list.addAll(List.of("addThing", "hand " + thing, "tag " + thing + " 0"));
            }
            for (int request = 0; request <= 40; request++) {
                list.add("ask ALIAS 0 1");
            }
            return list;
        }

        private List<String> undoing() {
            List<String> list = new ArrayList<>();
            for (int change = 0; change <= 20; change++) {
                list.add("undo");
                for (int thing = 0; thing < things; thing++) {
                    list.add("hand " + thing);
                }
            }
            return list;
        }

        private List<String> voting(String side) {
            List<String> list = new ArrayList<>();
            for (int request = 0; request < requests; request++) {
                for (int turn = 0; turn < 10; turn++) {
                    list.add("vote " + request + " " + (side.equals("for") ? turn : 9 - turn) + " " + side);
                }
            }
            return list;
        }
    }

    /** A keeper in which something stands of all that there is, so that a refused call could spoil it. */
    private static Run busy() {
        Run x = new Run(5, 3);
        x.pass("IMPLY 0 1");
        x.pass("ALIAS 2 0");
        x.votes(x.ask("IMPLY 1 3"), "0+ 1+ 2-", TagRoot.OPEN);
        x.votes(x.ask("ALIAS 4 1"), "7- 8- 9-", TagRoot.FAILED);
        x.due("tag 0 2", true);
        x.due("tag 1 1", true);
        x.due("mass ADD 1 3", 2);
        x.due("undo", 2);
        x.due("tag 2 4", true);
        x.due("type B", 1);
        x.due("type -", 2);
        return x;
    }

    /** A keeper with 24 tags, 20 things and 40 requests, of which the first one has passed. */
    private static Run full() {
        Run x = new Run(24, 20);
        x.pass("IMPLY 22 23");
        for (int request = 1; request < 40; request++) {
            x.ask("IMPLY " + request % 21 + " " + (request % 21 + 1));
        }
        x.due("tag 19 23", true);
        x.due("tag 0 22", true);
        return x;
    }

    // ---- 1 a new object

    private static void promise01NoTagsAndThings() {
        says("A keeper without tags and things");
        Run x = new Run();
        x.due("tags", 0);
        x.due("things", 0);
        x.due("kept", 0);
        x.due("count 0 0 0", 0);
        for (String call : List.of("letter 0 0", "tag 0 0", "untag 0 0", "mass ADD 0 0", "hand 0", "ask ALIAS 0 0",
                "vote 0 0 for", "standing 0", "couldPass 0", "clashes 0", "alias 0", "end 0", "implies 0 0", "shown 0",
                "shownByHand 0", "users 0", "reason 0 0", "match 0 0 0 0")) {
            x.refused(call, INDEX);
        }
    }

    private static void promise01EmptyDraft() {
        says("the draft is empty");
        Run x = new Run();
        x.refused("enter", STATE);
        x.due("type a", 1);
    }

    private static void promise01ObjectsApart() {
        says("A keeper without tags and things, whatever another one has");
        Run x = busy();
        Run y = new Run();
        y.due("tags", 0);
        y.due("things", 0);
        y.due("type a", 1);
        x.due("type x", 3);
        x.due("tags", 5);
        y.due("enter", 0);
        x.due("kept", 3);
    }

    // ---- 2 type

    private static void promise02FirstAndLastLetters() {
        says("letters A to Z and a to z, '-' and '_'");
        Run x = new Run();
        x.type("AZaz-_");
        for (String next : "@ [ ` { , . ^ / 0 9 + ~".split(" ")) {
            x.refused("type " + next, ARGUMENT);
        }
        x.due("enter", 0);
        x.dueName(0, "AZaz-_");
    }

    private static void promise02EveryCharacter() {
        says("if it is no character of names");
        String names = "ABCDEFGHIJKLMNOPQRSTUVWXYZabcdefghijklmnopqrstuvwxyz-_";
        for (int code = 0; code <= Character.MAX_VALUE; code++) {
            String got = answer(new TagRoot(), "type #" + code);
            String want = names.indexOf(code) >= 0 ? "1" : ARGUMENT;
            fault(!got.equals(want), "type of " + code + " answered " + got + ", due is " + want);
        }
    }

    private static void promise02LettersOfOtherScripts() {
        says("if it is no character of names: letters that are made small to a letter, or have its low bits");
        Run x = new Run();
        x.due("type k", 1);
        for (int code : new int[] {0, 32, 127, 128, 192, 223, 233, 255, 256 + 'A', 304, 305, 383, 8490, 65313, 65535}) {
            x.refused("type #" + code, ARGUMENT);
        }
        x.due("type k", 2);
    }

    private static void promise02EightCharactersAndTheNinth() {
        says("if the draft has 8 characters");
        Run x = new Run();
        x.type("abcdefgh");
        x.refused("type i", STATE);
        x.refused("type a", STATE);
        x.due("enter", 0);
        x.dueName(0, "abcdefgh");
        x.due("type i", 1);
    }

    private static void promise02NoCharacterOfNamesComesFirst() {
        says("If several exceptions of a throws clause apply, the one that is listed first is thrown");
        Run x = new Run();
        x.type("-------_");
        x.refused("type 0", ARGUMENT);
        x.refused("type #0", ARGUMENT);
        x.refused("type _", STATE);
    }

    private static void promise02WithFullTags() {
        says("Types a character behind the draft: with 24 tags as well");
        Run x = new Run(24, 0);
        x.type("zzzzzzzz");
        x.refused("type z", STATE);
    }

    // ---- 3 enter

    private static void promise03EmptyDraft() {
        says("if the draft is empty");
        Run x = new Run();
        x.refused("enter", STATE);
        x.name("a", 0);
        x.refused("enter", STATE);
        x.name("A", 0);
        x.refused("enter", STATE);
        Run y = new Run(24, 0);
        y.refused("enter", STATE);
    }

    private static void promise03OneCharacterAndEight() {
        says("A name has 1 to 8 characters");
        Run x = new Run();
        x.name("_", 0);
        x.name("a", 1);
        x.name("________", 2);
        x.name("abcdefgh", 3);
        x.dueName(0, "_");
        x.dueName(1, "a");
        x.dueName(2, "________");
        x.dueName(3, "abcdefgh");
    }

    private static void promise03SmallLetters() {
        says("alike when all letters are made small");
        Run x = new Run();
        String small = "abcdefghijklmnopqrstuvwxyz";
        for (int from = 0; from < 24; from += 8) {
            x.name(small.substring(from, from + 8), from / 8);
            x.name(small.substring(from, from + 8).toUpperCase(java.util.Locale.ROOT), from / 8);
        }
        x.name("Y", 3);
        x.name("y", 3);
        x.name("z", 4);
        x.name("Z", 4);
        x.name("zY", 5);
        x.name("Zy", 5);
    }

    private static void promise03Dashes() {
        says("each '-' is made '_'");
        Run x = new Run();
        x.name("-", 0);
        x.name("_", 0);
        x.name("--------", 1);
        x.name("________", 1);
        x.name("-_-_-_-_", 1);
        x.name("a-b", 2);
        x.name("A_B", 2);
        x.name("ab", 3);
        x.name("a--b", 4);
        x.name("a_-B", 4);
    }

    private static void promise03NamesThatAreNearlyTheSame() {
        says("Two names are the same if they are alike: not if one is longer, or one character is another");
        Run x = new Run();
        x.name("aaaaaaaa", 0);
        x.name("aaaaaaa", 1);
        x.name("baaaaaaa", 2);
        x.name("aaaaaaab", 3);
        x.name("a", 4);
        x.name("b", 5);
        x.name("aa", 6);
        x.name("AAAAAAA", 1);
        x.name("AAAAAAAA", 0);
        x.name("A", 4);
    }

    private static void promise03NumberedInTheirOrder() {
        says("Tags are numbered from 0 on in the order in which their names were first entered");
        Run x = new Run();
        x.name("z", 0);
        x.name("y", 1);
        x.name("Z", 0);
        x.name("x", 2);
        x.name("Y", 1);
        x.name("w", 3);
        x.due("tags", 4);
    }

    private static void promise03The24thTagAndThe25th() {
        says("it would be a new tag, and there are 24");
        Run x = new Run(23, 0);
        x.name("xx", 23);
        x.due("tags", 24);
        x.type("x");
        x.refused("enter", STATE);
        x.due("tags", 24);
    }

    private static void promise03KnownNamesWith24Tags() {
        says("Returns the number of the tag with the same name: with 24 tags as well");
        Run x = new Run(24, 0);
        x.name("A", 0);
        x.name("x", 23);
        x.name("X", 23);
        x.refused("enter", STATE);
        x.due("tags", 24);
    }

    private static void promise03TheRefused25thLeavesTheDraft() {
        says("A call that throws an exception changes nothing: the draft");
        Run x = new Run();
        x.name("aBc-e", 0);
        for (int tag = 1; tag < 24; tag++) {
            x.name("" + (char) ('a' + tag), tag);
        }
        x.type("Abc");
        x.refused("enter", STATE);
        x.refused("enter", STATE);
        x.due("type _", 4);
        x.refused("enter", STATE);
        x.due("type E", 5);
        x.due("enter", 0);
        x.dueName(0, "aBc-e");
        x.due("type q", 1);
    }

    // ---- 4 tags

    private static void promise04From0To24() {
        says("Returns how many tags there are");
        Run x = new Run();
        for (int tag = 0; tag < 24; tag++) {
            x.due("tags", tag);
            x.due("type " + (char) ('A' + tag), 1);
            x.due("tags", tag);
            x.due("enter", tag);
        }
        x.due("tags", 24);
        x.name("a", 0);
        x.due("tags", 24);
        x.due("type z", 1);
        x.due("enter", STATE);
        x.due("tags", 24);
    }

    // ---- 5 letter

    private static void promise05NoSuchTag() {
        says("if there is no such tag");
        new Run().refusedEach("letter ? 0", beyond(0), INDEX);
        busy().refusedEach("letter ? 0", beyond(5), INDEX);
        full().refusedEach("letter ? 0", beyond(24), INDEX);
        Run x = full();
        x.due("letter 0 0", 'a');
        x.due("letter 23 0", 'x');
    }

    private static void promise05NoSuchCharacter() {
        says("or its name no such character");
        Run x = new Run();
        x.name("aBcDeFgH", 0);
        x.name("x", 1);
        x.name("yz", 2);
        x.due("letter 0 0", 'a');
        x.due("letter 0 7", 'H');
        x.refusedEach("letter 0 ?", beyond(8), INDEX);
        x.due("letter 1 0", 'x');
        x.refusedEach("letter 1 ?", beyond(1), INDEX);
        x.due("letter 2 1", 'z');
        x.refusedEach("letter 2 ?", beyond(2), INDEX);
        x.refused("letter 3 8", INDEX);
    }

    private static void promise05NotTheDraft() {
        says("a character of the name of a tag: the draft is none");
        Run x = new Run();
        x.type("abc");
        x.refused("letter 0 0", INDEX);
        x.due("enter", 0);
        x.type("abcdefgh");
        x.refused("letter 0 3", INDEX);
        x.refused("letter 1 0", INDEX);
    }

    private static void promise05AsEnteredFirst() {
        says("as it was entered first");
        Run x = new Run();
        x.name("A-b_C", 0);
        x.name("a_B-c", 0);
        x.dueName(0, "A-b_C");
        x.name("zZzZzZzZ", 1);
        x.name("ZzZzZzZz", 1);
        x.dueName(1, "zZzZzZzZ");
        x.dueName(0, "A-b_C");
    }

    // ---- 6 addThing and 7 things

    private static void promise06The20thThingAndThe21st() {
        says("if there are 20 things");
        Run x = new Run(1, 19);
        x.due("addThing", 19);
        x.refused("addThing", STATE);
        x.refused("addThing", STATE);
        x.due("tag 19 0", true);
        x.due("things", 20);
    }

    private static void promise06AThingWithoutTags() {
        says("Adds a thing without tags");
        Run x = new Run(3, 1);
        x.pass("IMPLY 0 1");
        x.due("tag 0 0", true);
        x.due("mass ADD 1 2", 1);
        x.due("addThing", 1);
        x.due("hand 1", 0);
        x.dueShown(1, 0);
        x.due("users 0", 1);
        x.due("count 0 0 7", 1);
        x.due("kept", 2);
    }

    private static void promise07From0To20() {
        says("Returns how many things there are");
        Run x = new Run();
        for (int thing = 0; thing < 20; thing++) {
            x.due("things", thing);
            x.due("addThing", thing);
        }
        x.due("things", 20);
        x.due("addThing", STATE);
        x.due("things", 20);
    }

    // ---- 8 tag and 9 untag

    private static void promise08NoSuchThing() {
        says("if there is no such thing");
        busy().refusedEach("tag ? 0", beyond(3), INDEX);
        full().refusedEach("tag ? 0", beyond(20), INDEX);
        new Run(1, 0).refusedEach("tag ? 0", beyond(0), INDEX);
    }

    private static void promise08NoSuchTag() {
        says("if there is no such tag");
        busy().refusedEach("tag 0 ?", beyond(5), INDEX);
        full().refusedEach("tag 0 ?", beyond(24), INDEX);
        new Run(0, 1).refusedEach("tag 0 ?", beyond(0), INDEX);
        busy().refused("tag 3 5", INDEX);
    }

    private static void promise08FirstAndLast() {
        says("Sets a tag for a thing by hand: the first and the last");
        Run x = new Run(24, 20);
        x.due("tag 0 0", true);
        x.due("tag 19 23", true);
        x.due("tag 0 23", true);
        x.due("tag 19 0", true);
        x.due("hand 0", 1 + (1 << 23));
        x.due("hand 19", 1 + (1 << 23));
        x.due("hand 1", 0);
        x.due("hand 18", 0);
    }

    private static void promise08SetSoFar() {
        says("Returns whether it was not set so far");
        Run x = new Run(3, 2);
        x.pass("IMPLY 0 1");
        x.due("tag 0 0", true);
        x.due("tag 0 0", false);
        x.due("tag 0 1", true);
        x.due("tag 0 1", false);
        x.due("tag 1 0", true);
        x.due("untag 0 0", true);
        x.due("tag 0 0", true);
    }

    private static void promise08ATagWithAnAlias() {
        says("this tag, whether it has an alias or not");
        Run x = new Run(3, 1);
        x.pass("ALIAS 0 1");
        x.due("tag 0 0", true);
        x.due("hand 0", 1);
        x.due("tag 0 1", true);
        x.due("hand 0", 3);
        x.pass("LIFT_ALIAS 0 1");
        x.due("hand 0", 3);
        x.dueShown(0, 3);
    }

    private static void promise09NoSuchThing() {
        says("if there is no such thing");
        busy().refusedEach("untag ? 0", beyond(3), INDEX);
        full().refusedEach("untag ? 23", beyond(20), INDEX);
        new Run(1, 0).refusedEach("untag ? 0", beyond(0), INDEX);
    }

    private static void promise09NoSuchTag() {
        says("if there is no such tag");
        busy().refusedEach("untag 0 ?", beyond(5), INDEX);
        full().refusedEach("untag 19 ?", beyond(24), INDEX);
        new Run(0, 1).refusedEach("untag 0 ?", beyond(0), INDEX);
        busy().refused("untag 3 5", INDEX);
    }

    private static void promise09SetSoFar() {
        says("Returns whether it was set");
        Run x = new Run(24, 20);
        x.due("untag 19 23", false);
        x.due("tag 19 23", true);
        x.due("untag 18 23", false);
        x.due("untag 19 22", false);
        x.due("untag 19 23", true);
        x.due("untag 19 23", false);
        x.due("hand 19", 0);
        x.due("kept", 2);
    }

    private static void promise09OnlyWhatIsSetByHand() {
        says("Takes a tag from a thing that was set by hand");
        Run x = new Run(4, 1);
        x.pass("IMPLY 0 1");
        x.pass("ALIAS 2 0");
        x.due("tag 0 2", true);
        x.due("untag 0 1", false);
        x.due("untag 0 0", false);
        x.dueShown(0, 3);
        x.due("untag 0 2", true);
        x.dueShown(0, 0);
    }

    // ---- 10 mass

    private static void promise10NoSuchTagOfEither() {
        says("if there is no such tag, of either");
        for (String kind : List.of("ADD", "TAKE", "REPLACE")) {
            busy().refusedEach("mass " + kind + " ? 0", beyond(5), INDEX);
            busy().refusedEach("mass " + kind + " 0 ?", beyond(5), INDEX);
        }
        full().refusedEach("mass ADD 23 ?", beyond(24), INDEX);
        full().refusedEach("mass REPLACE ? 23", beyond(24), INDEX);
        new Run(0, 1).refused("mass ADD 0 0", INDEX);
    }

    private static void promise10NoSuchKind() {
        says("if there is no such kind");
        busy().refusedEach("mass ? 0 1", beyond(3), ARGUMENT);
        busy().refusedEach("mass ? 1 1", beyond(3), ARGUMENT);
        full().refusedEach("mass ? 23 0", beyond(3), ARGUMENT);
    }

    private static void promise10NoSuchTagComesFirst() {
        says("If several exceptions of a throws clause apply, the one that is listed first is thrown");
        Run x = busy();
        x.refused("mass 3 5 0", INDEX);
        x.refused("mass 3 0 5", INDEX);
        x.refused("mass -1 -1 -1", INDEX);
        x.refused("mass MIN 0 -1", INDEX);
    }

    private static void promise10AddOfNothingAndOfAll() {
        says("by ADD all things that show the end of a tag get another tag by hand: none of them, one, all 20");
        Run x = new Run(24, 20);
        x.due("mass ADD 0 23", 0);
        x.due("kept", 0);
        x.due("tag 19 0", true);
        x.due("mass ADD 0 23", 1);
        x.due("hand 19", 1 + (1 << 23));
        x.due("mass ADD 0 23", 0);
        x.due("kept", 2);
        for (int thing = 0; thing < 19; thing++) {
            x.due("tag " + thing + " 0", true);
        }
        x.due("mass ADD 0 1", 20);
        x.due("mass ADD 0 23", 19);
        for (int thing = 0; thing < 20; thing++) {
            x.due("hand " + thing, 3 + (1 << 23));
        }
    }

    private static void promise10AddSeesTheEnd() {
        says("all things that show the end of a tag: by hand, by an alias, by an implication");
        Run x = new Run(5, 4);
        x.pass("ALIAS 0 1");
        x.pass("IMPLY 2 0");
        x.due("tag 0 0", true);
        x.due("tag 1 1", true);
        x.due("tag 2 2", true);
        x.due("mass ADD 0 3", 3);
        x.due("mass ADD 1 4", 3);
        x.due("hand 0", 1 + 8 + 16);
        x.due("hand 1", 2 + 8 + 16);
        x.due("hand 2", 4 + 8 + 16);
        x.due("hand 3", 0);
    }

    private static void promise10TakeOfNothingAndOfAll() {
        says("by TAKE all things that show the end of a tag lose another tag that is set by hand");
        Run x = new Run(3, 20);
        x.due("mass TAKE 0 1", 0);
        for (int thing = 0; thing < 20; thing++) {
            x.due("tag " + thing + " 0", true);
        }
        x.due("mass TAKE 0 1", 0);
        x.due("tag 7 1", true);
        x.due("mass TAKE 0 1", 1);
        x.due("mass ADD 0 1", 20);
        x.due("untag 19 0", true);
        x.due("mass TAKE 0 1", 19);
        x.due("hand 19", 2);
        x.due("hand 0", 1);
    }

    private static void promise10TakeOnlyWhatIsSetByHand() {
        says("lose another tag that is set by hand: this tag, not its end, and not what is implied");
        Run x = new Run(4, 1);
        x.pass("IMPLY 0 1");
        x.pass("ALIAS 2 0");
        x.due("tag 0 2", true);
        x.due("mass TAKE 0 1", 0);
        x.due("mass TAKE 0 0", 0);
        x.due("mass TAKE 1 2", 1);
        x.due("hand 0", 0);
    }

    private static void promise10ReplaceOfNothingAndOfAll() {
        says("by REPLACE all things for which a tag is set by hand have another tag set by hand instead of it");
        Run x = new Run(24, 20);
        x.due("mass REPLACE 0 23", 0);
        for (int thing = 0; thing < 20; thing++) {
            x.due("tag " + thing + " 0", true);
        }
        x.due("tag 19 23", true);
        x.due("mass REPLACE 0 23", 20);
        x.due("hand 0", 1 << 23);
        x.due("hand 19", 1 << 23);
        x.due("mass REPLACE 0 23", 0);
        x.due("mass REPLACE 23 0", 20);
        x.due("hand 19", 1);
    }

    private static void promise10ReplaceOnlyWhatIsSetByHand() {
        says("for which a tag is set by hand: not those that show it by a rule");
        Run x = new Run(4, 3);
        x.pass("IMPLY 0 1");
        x.pass("ALIAS 2 1");
        x.due("tag 0 0", true);
        x.due("tag 1 2", true);
        x.due("mass REPLACE 1 3", 0);
        x.due("tag 2 1", true);
        x.due("mass REPLACE 1 3", 1);
        x.due("hand 0", 1);
        x.due("hand 1", 4);
        x.due("hand 2", 8);
        x.due("mass REPLACE 2 3", 1);
        x.due("hand 1", 8);
    }

    private static void promise10TheSameTag() {
        says("the other tag, which may be the same");
        Run x = new Run(2, 3);
        x.pass("IMPLY 0 1");
        x.due("tag 0 0", true);
        x.due("tag 1 1", true);
        x.due("mass REPLACE 0 0", 0);
        x.due("mass REPLACE 1 1", 0);
        x.due("kept", 2);
        x.due("mass ADD 1 1", 1);
        x.due("hand 0", 3);
        x.due("mass ADD 0 0", 0);
        x.due("mass TAKE 0 0", 1);
        x.due("hand 0", 2);
        x.due("mass TAKE 1 1", 2);
        x.due("hand 0", 0);
        x.due("hand 1", 0);
        x.due("hand 2", 0);
    }

    private static void promise10AsItIsAhead() {
        says("What things show is told as it is ahead of the edit");
        Run x = new Run(3, 20);
        x.pass("IMPLY 0 1");
        for (int thing = 0; thing < 20; thing += 2) {
            x.due("tag " + thing + " 0", true);
        }
        x.due("mass TAKE 1 0", 10);
        x.due("mass ADD 1 2", 0);
        x.due("undo", 10);
        x.due("mass ADD 1 2", 10);
        x.due("users 2", 10);
    }

    private static void promise10HowManyHaveBecomeOthers() {
        says("Returns for how many things the tags that are set by hand have become others");
        Run x = new Run(3, 4);
        x.due("tag 0 0", true);
        x.due("tag 1 0", true);
        x.due("tag 1 1", true);
        x.due("tag 2 1", true);
        x.due("mass ADD 0 1", 1);
        x.due("mass ADD 0 1", 0);
        x.due("mass TAKE 1 0", 2);
        x.due("mass REPLACE 1 2", 3);
        x.due("mass REPLACE 1 2", 0);
        x.due("kept", 7);
    }

    private static void promise10WithoutThings() {
        says("Edits many things: without any");
        Run x = new Run(1, 0);
        x.due("mass ADD 0 0", 0);
        x.due("mass TAKE 0 0", 0);
        x.due("mass REPLACE 0 0", 0);
        x.due("kept", 0);
        x.refused("undo", STATE);
    }

    // ---- 11 undo and 12 kept

    private static void promise11NoneIsKept() {
        says("if none is kept");
        new Run().refused("undo", STATE);
        Run x = new Run(2, 2);
        x.refused("undo", STATE);
        x.due("untag 0 0", false);
        x.due("mass ADD 0 1", 0);
        x.refused("undo", STATE);
        x.due("tag 0 0", true);
        x.due("undo", 1);
        x.refused("undo", STATE);
        x.refused("undo", STATE);
        x.due("tag 1 1", true);
        x.due("undo", 1);
        x.refused("undo", STATE);
    }

    private static void promise11TheLatest20() {
        says("the latest 20: the 20th is undone, and none behind it");
        Run x = new Run(20, 1);
        for (int tag = 0; tag < 20; tag++) {
            x.due("tag 0 " + tag, true);
        }
        for (int tag = 19; tag >= 0; tag--) {
            x.due("hand 0", (1 << tag + 1) - 1);
            x.due("undo", 1);
        }
        x.due("hand 0", 0);
        x.refused("undo", STATE);
    }

    private static void promise11The21st() {
        says("older ones are forgotten for good: one");
        Run x = new Run(21, 1);
        for (int tag = 0; tag < 21; tag++) {
            x.due("tag 0 " + tag, true);
        }
        for (int tag = 20; tag > 0; tag--) {
            x.due("undo", 1);
            x.due("hand 0", (1 << tag) - 1);
        }
        x.due("kept", 0);
        x.refused("undo", STATE);
        x.due("hand 0", 1);
    }

    private static void promise11ManyMoreThan20() {
        says("older ones are forgotten for good: the ring of changes goes round several times");
        Run x = new Run(24, 1);
        for (int change = 0; change < 72; change++) {
            x.due((change / 24 == 1 ? "untag 0 " : "tag 0 ") + change % 24, true);
        }
        x.due("kept", 20);
        for (int tag = 23; tag > 3; tag--) {
            x.due("undo", 1);
            x.due("hand 0", (1 << tag) - 1);
        }
        x.refused("undo", STATE);
        x.due("hand 0", 15);
    }

    private static void promise11ForgottenForGood() {
        says("older ones are forgotten for good: undoing brings none of them back");
        Run x = new Run(24, 1);
        for (int tag = 0; tag < 24; tag++) {
            x.due("tag 0 " + tag, true);
        }
        for (int change = 0; change < 5; change++) {
            x.due("undo", 1);
        }
        x.due("kept", 15);
        x.due("tag 0 23", true);
        x.due("kept", 16);
        for (int change = 0; change < 16; change++) {
            x.due("undo", 1);
        }
        x.due("hand 0", 15);
        x.refused("undo", STATE);
    }

    private static void promise11AllThingsOfOneChange() {
        says("the things that it changed have the tags set by hand that they had ahead of it: all 20");
        Run x = new Run(3, 20);
        for (int thing = 0; thing < 20; thing++) {
            x.due("tag " + thing + " " + thing % 2, true);
        }
        x.due("mass ADD 0 2", 10);
        x.due("mass ADD 1 2", 10);
        x.due("mass REPLACE 2 0", 20);
        x.due("hand 0", 1);
        x.due("hand 1", 3);
        x.due("undo", 20);
        for (int thing = 0; thing < 20; thing++) {
            x.due("hand " + thing, thing % 2 == 0 ? 5 : 6);
        }
        x.due("undo", 10);
        x.due("hand 18", 5);
        x.due("hand 19", 2);
    }

    private static void promise11OnlyTheThingsThatItChanged() {
        says("the things that it changed: the others stay");
        Run x = new Run(3, 2);
        x.due("tag 0 0", true);
        x.due("tag 1 1", true);
        x.due("mass ADD 0 2", 1);
        x.due("addThing", 2);
        x.due("undo", 1);
        x.due("hand 0", 1);
        x.due("hand 1", 2);
        x.due("hand 2", 0);
        x.due("things", 3);
        x.due("undo", 1);
        x.due("hand 0", 1);
        x.due("hand 1", 0);
    }

    private static void promise11RulesAndRequestsStay() {
        says("Rules, requests, tags and things are not undone");
        Run x = new Run(3, 1);
        x.due("tag 0 0", true);
        x.pass("IMPLY 0 1");
        x.votes(x.ask("ALIAS 2 0"), "0+ 1+", TagRoot.OPEN);
        x.name("zz", 3);
        x.due("addThing", 1);
        x.due("type q", 1);
        x.due("undo", 1);
        x.due("implies 0 1", true);
        x.due("standing 0", TagRoot.PASSED);
        x.due("standing 1", TagRoot.OPEN);
        x.votes(1, "2+", TagRoot.PASSED);
        x.due("alias 2", 0);
        x.due("tags", 4);
        x.due("things", 2);
        x.due("type q", 2);
        x.refused("undo", STATE);
    }

    private static void promise11UndoneByTheRulesOfNow() {
        says("Undoes the latest change: what is shown behind it follows the rules of now");
        Run x = new Run(3, 1);
        x.due("tag 0 0", true);
        x.due("untag 0 0", true);
        x.pass("IMPLY 0 1");
        x.due("undo", 1);
        x.dueShown(0, 3);
        x.due("users 1", 1);
        x.pass("ALIAS 0 2");
        x.due("untag 0 0", true);
        x.due("undo", 1);
        x.dueShown(0, 6);
    }

    private static void promise11EditsBehindUndo() {
        says("Undoes the latest change: an edit behind it brings nothing of it back");
        for (String edit : List.of("tag 0 2", "untag 0 0", "mass ADD 0 2", "mass TAKE 0 0", "mass REPLACE 0 2")) {
            Run x = new Run(3, 2);
            x.due("tag 0 0", true);
            x.due("tag 1 1", true);
            x.due("undo", 1);
            x.due(edit, edit.startsWith("mass") ? 1 : true);
            x.due("hand 1", 0);
            x.due("undo", 1);
            x.due("hand 0", 1);
            x.due("hand 1", 0);
        }
    }

    private static void promise11UndoIsNoChangeThatIsKept() {
        says("Changes by tag(), untag() and mass() are kept: not undo()");
        Run x = new Run(2, 1);
        x.due("tag 0 0", true);
        x.due("tag 0 1", true);
        x.due("undo", 1);
        x.due("undo", 1);
        x.due("hand 0", 0);
        x.refused("undo", STATE);
    }

    private static void promise12From0To20() {
        says("Returns how many changes are kept");
        Run x = new Run(2, 1);
        x.due("kept", 0);
        for (int change = 1; change <= 45; change++) {
            x.due(change % 2 == 1 ? "tag 0 1" : "untag 0 1", true);
            x.due("kept", Math.min(change, 20));
        }
        for (int left = 19; left >= 0; left--) {
            x.due("undo", 1);
            x.due("kept", left);
        }
        x.due("undo", STATE);
        x.due("kept", 0);
    }

    private static void promise12OnlyIfTheyChangeSomething() {
        says("if they change something for a thing");
        Run x = new Run(2, 2);
        x.due("tag 0 0", true);
        x.due("tag 0 0", false);
        x.due("untag 1 0", false);
        x.due("mass ADD 0 0", 0);
        x.due("mass TAKE 0 1", 0);
        x.due("mass REPLACE 0 0", 0);
        x.due("mass REPLACE 1 0", 0);
        x.due("kept", 1);
        x.due("mass ADD 0 1", 1);
        x.due("kept", 2);
    }

    private static void promise12ChangesOfNothingForgetNone() {
        says("the latest 20, if they change something: what changes nothing takes the place of none");
        Run x = new Run(21, 1);
        for (int tag = 0; tag < 20; tag++) {
            x.due("tag 0 " + tag, true);
        }
        x.due("tag 0 0", false);
        x.due("untag 0 20", false);
        x.due("mass ADD 0 1", 0);
        x.due("mass REPLACE 3 3", 0);
        for (int change = 0; change < 20; change++) {
            x.due("undo", 1);
        }
        x.due("hand 0", 0);
    }

    private static void promise12AMassEditIsOneChange() {
        says("how many changes are kept: an edit of many things is one");
        Run x = new Run(2, 20);
        for (int thing = 0; thing < 20; thing++) {
            x.due("tag " + thing + " 0", true);
        }
        for (int change = 0; change < 10; change++) {
            x.due("undo", 1);
        }
        x.due("mass ADD 0 1", 10);
        x.due("kept", 11);
        x.due("undo", 10);
        x.due("kept", 10);
    }

    // ---- 13 hand

    private static void promise13NoSuchThing() {
        says("if there is no such thing");
        new Run(1, 0).refusedEach("hand ?", beyond(0), INDEX);
        busy().refusedEach("hand ?", beyond(3), INDEX);
        full().refusedEach("hand ?", beyond(20), INDEX);
    }

    private static void promise13FromNoTagToAll24() {
        says("Returns the set of the tags that are set for a thing by hand");
        Run x = new Run(24, 20);
        int set = 0;
        for (int tag = 23; tag >= 0; tag--) {
            x.due("hand 19", set);
            x.due("tag 19 " + tag, true);
            set += 1 << tag;
        }
        x.due("hand 19", ALL_24);
        x.due("hand 0", 0);
        x.due("hand 18", 0);
        x.due("untag 19 0", true);
        x.due("hand 19", ALL_24 - 1);
    }

    private static void promise13NotByRules() {
        says("set for a thing by hand: rules change nothing of it");
        Run x = new Run(3, 1);
        x.due("tag 0 0", true);
        x.pass("IMPLY 0 1");
        x.pass("ALIAS 0 2");
        x.due("hand 0", 1);
        x.pass("LIFT_IMPLY 0 1");
        x.pass("LIFT_ALIAS 0 2");
        x.due("hand 0", 1);
    }

    // ---- 14 ask

    private static void promise14NoSuchTagOfEither() {
        says("if there is no such tag, of either");
        for (String kind : List.of("ALIAS", "IMPLY", "LIFT_ALIAS", "LIFT_IMPLY")) {
            busy().refusedEach("ask " + kind + " ? 1", beyond(5), INDEX);
            busy().refusedEach("ask " + kind + " 1 ?", beyond(5), INDEX);
        }
        new Run(24, 0).refusedEach("ask IMPLY ? 0", beyond(24), INDEX);
        new Run(24, 0).refusedEach("ask IMPLY 0 ?", beyond(24), INDEX);
        new Run().refused("ask ALIAS 0 1", INDEX);
    }

    private static void promise14NoSuchKind() {
        says("if there is no such kind");
        busy().refusedEach("ask ? 0 1", beyond(4), ARGUMENT);
        Run x = new Run(2, 0);
        for (int kind = 0; kind <= 3; kind++) {
            x.due("ask " + kind + " 0 1", kind);
        }
    }

    private static void promise14BothTagsTheSame() {
        says("or both tags are the same");
        Run x = busy();
        for (String kind : List.of("ALIAS", "IMPLY", "LIFT_ALIAS", "LIFT_IMPLY")) {
            x.refused("ask " + kind + " 0 0", ARGUMENT);
            x.refused("ask " + kind + " 4 4", ARGUMENT);
        }
        x.due("ask IMPLY 0 2", 4);
        new Run(1, 0).refused("ask ALIAS 0 0", ARGUMENT);
    }

    private static void promise14The40thRequestAndThe41st() {
        says("if 40 requests were made");
        Run x = new Run(3, 0);
        for (int request = 0; request < 39; request++) {
            x.due("ask " + request % 4 + " 0 1", request);
        }
        x.due("ask IMPLY 1 2", 39);
        x.refused("ask IMPLY 1 2", STATE);
        x.refused("ask LIFT_ALIAS 2 0", STATE);
        x.votes(39, "0+ 1+ 2+", TagRoot.PASSED);
    }

    private static void promise14RequestsThatAreDecidedCountOn() {
        says("if 40 requests were made: whether they are open or not");
        Run x = new Run(3, 0);
        for (int request = 0; request < 40; request++) {
            x.ask("IMPLY 0 1");
        }
        x.votes(0, "0+ 1+ 2+", TagRoot.PASSED);
        x.votes(1, "0+ 1+ 2+", TagRoot.FAILED);
        x.votes(2, "0- 1- 2-", TagRoot.FAILED);
        x.refused("ask IMPLY 1 2", STATE);
    }

    private static void promise14WhichComesFirst() {
        says("If several exceptions of a throws clause apply, the one that is listed first is thrown");
        Run x = new Run(3, 0);
        x.refused("ask 4 3 3", INDEX);
        x.refused("ask -1 0 3", INDEX);
        x.refused("ask ALIAS 3 3", INDEX);
        x.refused("ask 4 0 0", ARGUMENT);
        for (int request = 0; request < 40; request++) {
            x.ask("ALIAS 0 1");
        }
        x.refused("ask ALIAS 3 0", INDEX);
        x.refused("ask ALIAS 0 -1", INDEX);
        x.refused("ask 4 3 3", INDEX);
        x.refused("ask 4 0 1", ARGUMENT);
        x.refused("ask -1 0 1", ARGUMENT);
        x.refused("ask ALIAS 1 1", ARGUMENT);
        x.refused("ask ALIAS 1 2", STATE);
    }

    private static void promise14WithoutAnyVotes() {
        says("Makes a request, without any votes");
        Run x = new Run(3, 0);
        x.votes(x.ask("IMPLY 0 1"), "0+ 1+ 2+", TagRoot.PASSED);
        x.ask("IMPLY 1 2");
        x.due("standing 1", TagRoot.OPEN);
        x.due("implies 1 2", false);
        x.votes(1, "3+ 4+", TagRoot.OPEN);
        x.ask("IMPLY 1 2");
        x.votes(2, "0- 1- 2-", TagRoot.FAILED);
        x.votes(1, "5+", TagRoot.PASSED);
    }

    // ---- 15 vote

    private static void promise15NoSuchRequest() {
        says("if there is no such request");
        new Run(2, 0).refusedEach("vote ? 0 for", beyond(0), INDEX);
        busy().refusedEach("vote ? 0 for", beyond(4), INDEX);
        full().refusedEach("vote ? 9 against", beyond(40), INDEX);
        Run x = full();
        x.votes(39, "0- 1- 2-", TagRoot.FAILED);
    }

    private static void promise15NoSuchVoter() {
        says("if voter is out of range");
        busy().refusedEach("vote 2 ? for", beyond(10), ARGUMENT);
        busy().refusedEach("vote 2 ? against", beyond(10), ARGUMENT);
        Run x = new Run(2, 0);
        x.votes(x.ask("IMPLY 0 1"), "0+ 9+ 5+", TagRoot.PASSED);
    }

    private static void promise15NotOpen() {
        says("if it is not open");
        Run x = busy();
        for (int voter = 0; voter < 10; voter += 3) {
            x.refused("vote 0 " + voter + " for", STATE);
            x.refused("vote 0 " + voter + " against", STATE);
            x.refused("vote 3 " + voter + " for", STATE);
            x.refused("vote 3 " + voter + " against", STATE);
        }
        Run y = new Run(2, 0);
        y.votes(y.ask("LIFT_IMPLY 0 1"), "0+ 1+ 2+", TagRoot.FAILED);
        y.refused("vote 0 3 for", STATE);
    }

    private static void promise15WhichComesFirst() {
        says("If several exceptions of a throws clause apply, the one that is listed first is thrown");
        Run x = busy();
        x.refused("vote 4 10 for", INDEX);
        x.refused("vote -1 -1 for", INDEX);
        x.refused("vote 0 10 for", ARGUMENT);
        x.refused("vote 0 -1 against", ARGUMENT);
        x.refused("vote 3 10 against", ARGUMENT);
        x.refused("vote 3 9 against", STATE);
    }

    private static void promise15TwoMoreAndThreeMoreForIt() {
        says("As soon as 3 more voters are for it than against it, it passes if it can");
        Run x = new Run(24, 0);
        x.votes(x.ask("IMPLY 0 1"), "0+ 1+", TagRoot.OPEN);
        x.due("implies 0 1", false);
        x.votes(0, "2+", TagRoot.PASSED);
        x.due("implies 0 1", true);
        x.votes(x.ask("IMPLY 2 3"), "0- 1+ 2+ 3+ 4+", TagRoot.PASSED);
        x.votes(x.ask("IMPLY 4 5"), "0+ 1- 2+ 3- 4+ 5- 6+ 7+ 8+", TagRoot.PASSED);
        x.votes(x.ask("IMPLY 6 7"), "0+ 1- 2+ 3- 4+ 5- 6+ 7- 8+ 9+", TagRoot.OPEN);
        x.votes(x.ask("IMPLY 8 9"), "0+ 1- 2+ 3- 4+ 5- 6+ 7- 8+ 9-", TagRoot.OPEN);
    }

    private static void promise15TwoMoreAndThreeMoreAgainstIt() {
        says("As soon as 3 more are against it than for it, it fails");
        Run x = new Run(24, 0);
        x.votes(x.ask("IMPLY 0 1"), "0- 1-", TagRoot.OPEN);
        x.due("couldPass 0", true);
        x.votes(0, "2-", TagRoot.FAILED);
        x.due("couldPass 0", false);
        x.due("implies 0 1", false);
        x.votes(x.ask("IMPLY 2 3"), "9+ 8- 7- 6- 5-", TagRoot.FAILED);
        x.votes(x.ask("IMPLY 4 5"), "0- 1+ 2- 3+ 4- 5+ 6- 7- 8-", TagRoot.FAILED);
        x.votes(x.ask("IMPLY 6 7"), "0- 1+ 2- 3+ 4- 5+ 6- 7+ 8- 9-", TagRoot.OPEN);
        x.votes(x.ask("LIFT_ALIAS 8 9"), "0- 1- 2-", TagRoot.FAILED);
    }

    private static void promise15TheLatestVoteCounts() {
        says("of each voter the latest vote counts");
        Run x = new Run(9, 0);
        x.votes(x.ask("IMPLY 0 1"), "0+ 0+ 0+ 1+ 1+ 1+ 0+ 9+", TagRoot.PASSED);
        x.votes(x.ask("IMPLY 1 2"), "0- 0- 0- 1- 1- 1- 0- 9-", TagRoot.FAILED);
        x.votes(x.ask("IMPLY 2 3"), "0+ 1+ 0- 0+ 1- 1+ 0- 1- 0+ 1+ 2+", TagRoot.PASSED);
        x.votes(x.ask("IMPLY 3 4"), "0+ 1+ 0- 1- 2-", TagRoot.FAILED);
    }

    private static void promise15AVoteThatChangesSides() {
        says("3 more voters are for it than against it: by a vote that changes sides");
        Run x = new Run(24, 0);
        x.votes(x.ask("IMPLY 0 1"), "0+ 1+ 2- 2+", TagRoot.PASSED);
        x.votes(x.ask("IMPLY 2 3"), "0+ 1+ 2- 3+ 2+", TagRoot.PASSED);
        x.votes(x.ask("IMPLY 4 5"), "0- 1- 2+ 2-", TagRoot.FAILED);
        x.votes(x.ask("IMPLY 6 7"), "0- 1- 2+ 3- 2-", TagRoot.FAILED);
        x.votes(x.ask("IMPLY 8 9"), "0+ 1+ 1- 0-", TagRoot.OPEN);
        x.votes(x.ask("IMPLY 9 10"), "0+ 1- 2+ 3- 4+ 5- 6+ 7- 8+ 9+ 7+", TagRoot.PASSED);
        x.votes(x.ask("IMPLY 11 12"), "0+ 1- 2+ 3- 4+ 5- 6+ 7- 8- 9- 6-", TagRoot.FAILED);
        x.due("implies 0 1", true);
        x.due("implies 2 3", true);
        x.due("implies 4 5", false);
    }

    private static void promise15DoneAtOnce() {
        says("this is done at once");
        Run x = new Run(5, 1);
        x.due("tag 0 0", true);
        x.pass("IMPLY 0 1");
        x.due("implies 0 1", true);
        x.dueShown(0, 3);
        x.due("users 1", 1);
        x.pass("ALIAS 1 2");
        x.due("alias 1", 2);
        x.dueShown(0, 5);
        x.pass("LIFT_ALIAS 1 2");
        x.due("alias 1", TagRoot.NONE);
        x.dueShown(0, 3);
        x.pass("LIFT_IMPLY 0 1");
        x.due("implies 0 1", false);
        x.dueShown(0, 1);
    }

    private static void promise15IfItCannotPassItFails() {
        says("If it cannot pass, it fails");
        Run x = new Run(4, 1);
        x.due("tag 0 1", true);
        x.pass("IMPLY 0 1");
        for (String rule : List.of("IMPLY 0 1", "IMPLY 1 0", "ALIAS 0 1", "ALIAS 1 0", "LIFT_IMPLY 1 0",
                "LIFT_ALIAS 0 1")) {
            x.votes(x.ask(rule), "0+ 1+ 2+", TagRoot.FAILED);
        }
        x.due("implies 0 1", true);
        x.due("implies 1 0", false);
        x.due("alias 0", TagRoot.NONE);
        x.due("alias 1", TagRoot.NONE);
        x.dueShown(0, 2);
    }

    private static void promise15IfTheRuleCanBeMadeThen() {
        says("if the rule can be made or lifted then: not when it was asked for");
        Run x = new Run(3, 0);
        int early = x.ask("IMPLY 0 1");
        int late = x.ask("LIFT_IMPLY 0 1");
        int back = x.ask("IMPLY 1 0");
        x.due("couldPass " + late, false);
        x.votes(early, "0+ 1+ 2+", TagRoot.PASSED);
        x.due("couldPass " + back, false);
        x.votes(back, "0+ 1+", TagRoot.OPEN);
        x.votes(late, "0+ 1+ 2+", TagRoot.PASSED);
        x.votes(back, "2+", TagRoot.PASSED);
        x.due("implies 1 0", true);
        x.due("implies 0 1", false);
    }

    private static void promise15WhatCannotPassIsOpenTillThen() {
        says("As soon as 3 more voters are for it: what cannot pass is open with 2 more");
        Run x = new Run(2, 0);
        x.votes(x.ask("LIFT_ALIAS 0 1"), "0+ 1+", TagRoot.OPEN);
        x.votes(0, "1- 2+ 1+", TagRoot.FAILED);
    }

    // ---- 16 standing

    private static void promise16NoSuchRequest() {
        says("if there is no such request");
        new Run(2, 0).refusedEach("standing ?", beyond(0), INDEX);
        busy().refusedEach("standing ?", beyond(4), INDEX);
        full().refusedEach("standing ?", beyond(40), INDEX);
        Run x = full();
        x.due("standing 0", TagRoot.PASSED);
        x.due("standing 39", TagRoot.OPEN);
    }

    private static void promise16EachStanding() {
        says("Returns OPEN, PASSED or FAILED");
        Run x = new Run(3, 0);
        x.ask("IMPLY 0 1");
        x.due("standing 0", 0);
        x.votes(0, "0+ 1+", TagRoot.OPEN);
        x.due("standing 0", 0);
        x.votes(0, "2+", TagRoot.PASSED);
        x.due("standing 0", 1);
        x.votes(x.ask("IMPLY 0 1"), "0+ 1+ 2+", TagRoot.FAILED);
        x.due("standing 1", 2);
        x.votes(x.ask("IMPLY 1 2"), "0- 1- 2-", TagRoot.FAILED);
        x.due("standing 2", 2);
        x.pass("LIFT_IMPLY 0 1");
        x.due("standing 0", 1);
    }

    // ---- 17 couldPass

    private static void promise17NoSuchRequest() {
        says("if there is no such request");
        new Run(2, 0).refusedEach("couldPass ?", beyond(0), INDEX);
        busy().refusedEach("couldPass ?", beyond(4), INDEX);
        full().refusedEach("couldPass ?", beyond(40), INDEX);
        Run x = full();
        x.due("couldPass 39", true);
        x.due("couldPass 0", false);
    }

    private static void promise17NotOpen() {
        says("false if it is not open");
        Run x = new Run(4, 0);
        x.votes(x.ask("IMPLY 0 1"), "0- 1- 2-", TagRoot.FAILED);
        x.due("couldPass 0", false);
        x.could("IMPLY 0 1", true);
        x.pass("IMPLY 0 1");
        x.pass("LIFT_IMPLY 0 1");
        x.due("couldPass 2", false);
        x.due("couldPass 3", false);
        x.due("couldPass 1", true);
    }

    private static void promise17WhateverItsVotes() {
        says("whatever its votes");
        Run x = new Run(2, 0);
        x.could("IMPLY 0 1", true);
        x.votes(0, "0- 1-", TagRoot.OPEN);
        x.due("couldPass 0", true);
        x.could("LIFT_IMPLY 0 1", false);
        x.votes(1, "0+ 1+", TagRoot.OPEN);
        x.due("couldPass 1", false);
    }

    private static void promise17AliasOfATagWithAnAlias() {
        says("An alias can be made if the tag has no alias");
        Run x = new Run(4, 0);
        x.pass("ALIAS 0 1");
        x.could("ALIAS 0 1", false);
        x.could("ALIAS 0 2", false);
        x.could("ALIAS 2 0", true);
        x.could("ALIAS 1 2", true);
        x.pass("LIFT_ALIAS 0 1");
        x.could("ALIAS 0 2", true);
    }

    private static void promise17AliasToItsOwnEnd() {
        says("the end of the other one is not the tag itself");
        Run x = new Run(24, 0);
        for (int tag = 0; tag < 23; tag++) {
            x.pass("ALIAS " + tag + " " + (tag + 1));
        }
        x.could("ALIAS 23 22", false);
        x.could("ALIAS 23 11", false);
        x.could("ALIAS 23 0", false);
        x.pass("LIFT_ALIAS 11 12");
        x.could("ALIAS 23 11", true);
        x.could("ALIAS 23 0", true);
        x.could("ALIAS 23 12", false);
        x.could("ALIAS 11 0", false);
    }

    private static void promise17AliasInACircle() {
        says("An alias can be made if there is no circle then");
        Run x = new Run(6, 0);
        x.pass("IMPLY 0 1");
        x.could("ALIAS 0 1", false);
        x.could("ALIAS 1 0", false);
        x.pass("IMPLY 1 2");
        x.could("ALIAS 0 2", false);
        x.could("ALIAS 2 0", false);
        x.pass("IMPLY 0 3");
        x.could("ALIAS 2 3", true);
        x.could("ALIAS 3 1", true);
        x.pass("ALIAS 4 2");
        x.could("ALIAS 0 4", false);
        x.could("ALIAS 5 4", true);
        x.pass("ALIAS 3 1");
        x.could("ALIAS 0 3", false);
    }

    private static void promise17AliasInACircleOfAll() {
        says("no circle then: over 23 implications");
        Run x = new Run(24, 0);
        for (int tag = 0; tag < 23; tag++) {
            x.pass("IMPLY " + tag + " " + (tag + 1));
        }
        x.could("ALIAS 0 23", false);
        x.could("ALIAS 23 0", false);
        x.could("IMPLY 23 0", false);
        x.could("IMPLY 0 23", true);
        x.pass("LIFT_IMPLY 12 13");
        x.could("ALIAS 0 23", true);
        x.could("ALIAS 23 0", true);
        x.could("IMPLY 23 0", true);
    }

    private static void promise17ImplicationThatThereIs() {
        says("An implication can be made if there is none from the one to the other");
        Run x = new Run(4, 0);
        x.could("IMPLY 0 1", true);
        x.pass("IMPLY 0 1");
        x.could("IMPLY 0 1", false);
        x.could("IMPLY 0 2", true);
        x.could("IMPLY 2 1", true);
        x.pass("ALIAS 1 2");
        x.could("IMPLY 0 1", false);
        x.could("IMPLY 0 2", true);
        x.pass("ALIAS 3 0");
        x.could("IMPLY 3 1", true);
        x.pass("LIFT_IMPLY 0 1");
        x.could("IMPLY 0 1", true);
    }

    private static void promise17ImplicationOfOneInACircle() {
        says("from some tag to itself over implications as they act, one");
        Run x = new Run(4, 0);
        x.pass("ALIAS 0 1");
        x.could("IMPLY 0 1", false);
        x.could("IMPLY 1 0", false);
        x.pass("ALIAS 2 1");
        x.could("IMPLY 0 2", false);
        x.could("IMPLY 2 0", false);
        x.pass("ALIAS 1 3");
        x.could("IMPLY 0 2", false);
        x.could("IMPLY 0 3", false);
        x.pass("LIFT_ALIAS 0 1");
        x.could("IMPLY 0 2", true);
        x.could("IMPLY 2 0", true);
    }

    private static void promise17ImplicationOfMoreInACircle() {
        says("from some tag to itself over implications as they act, or more");
        Run x = new Run(6, 0);
        x.pass("IMPLY 0 1");
        x.could("IMPLY 1 0", false);
        x.pass("IMPLY 1 2");
        x.could("IMPLY 2 0", false);
        x.could("IMPLY 2 1", false);
        x.could("IMPLY 0 2", true);
        x.pass("ALIAS 2 3");
        x.could("IMPLY 3 0", false);
        x.could("IMPLY 2 0", false);
        x.pass("ALIAS 4 0");
        x.could("IMPLY 3 4", false);
        x.could("IMPLY 4 3", true);
        x.could("IMPLY 5 0", true);
        x.could("IMPLY 3 5", true);
    }

    private static void promise17WhatCanBeLifted() {
        says("An alias or an implication can be lifted if there is one");
        Run x = new Run(4, 0);
        x.could("LIFT_ALIAS 0 1", false);
        x.could("LIFT_IMPLY 0 1", false);
        x.pass("ALIAS 0 1");
        x.could("LIFT_ALIAS 0 1", true);
        x.could("LIFT_ALIAS 1 0", false);
        x.could("LIFT_ALIAS 0 2", false);
        x.could("LIFT_IMPLY 0 1", false);
        x.pass("ALIAS 1 2");
        x.could("LIFT_ALIAS 0 2", false);
        x.pass("IMPLY 0 3");
        x.could("LIFT_IMPLY 0 3", true);
        x.could("LIFT_IMPLY 3 0", false);
        x.could("LIFT_IMPLY 2 3", false);
        x.could("LIFT_ALIAS 0 3", false);
        x.pass("LIFT_IMPLY 0 3");
        x.could("LIFT_IMPLY 0 3", false);
        x.pass("LIFT_ALIAS 0 1");
        x.could("LIFT_ALIAS 0 1", false);
        x.could("LIFT_ALIAS 1 2", true);
    }

    // ---- 18 clashes

    private static void promise18NoSuchRequest() {
        says("if there is no such request");
        new Run(2, 0).refusedEach("clashes ?", beyond(0), INDEX);
        busy().refusedEach("clashes ?", beyond(4), INDEX);
        full().refusedEach("clashes ?", beyond(40), INDEX);
        Run x = full();
        x.due("clashes 0", 0);
        x.due("clashes 39", 1);
    }

    private static void promise18From0To39Others() {
        says("with how many other open requests a request clashes");
        Run x = new Run(3, 0);
        for (int request = 0; request < 40; request++) {
            x.ask("IMPLY 0 1");
            x.due("clashes 0", request);
            x.due("clashes " + request, request);
        }
        x.votes(7, "0- 1- 2-", TagRoot.FAILED);
        x.due("clashes 0", 38);
        x.due("clashes 39", 38);
        x.due("clashes 7", 0);
    }

    private static void promise18NotOpen() {
        says("0 if it is not open");
        Run x = new Run(3, 0);
        x.ask("IMPLY 0 1");
        x.ask("IMPLY 1 0");
        x.ask("IMPLY 0 1");
        x.due("clashes 0", 2);
        x.votes(0, "0- 1- 2-", TagRoot.FAILED);
        x.due("clashes 0", 0);
        x.due("clashes 1", 1);
        x.due("clashes 2", 1);
        x.votes(1, "0+ 1+ 2+", TagRoot.PASSED);
        x.due("clashes 1", 0);
        x.due("clashes 2", 0);
    }

    private static void promise18EachOfThemCouldPassNow() {
        says("if each of them could pass now");
        Run x = new Run(4, 0);
        x.pass("IMPLY 0 1");
        x.ask("IMPLY 1 0");
        x.ask("IMPLY 1 0");
        x.ask("LIFT_IMPLY 0 1");
        x.due("clashes 1", 0);
        x.due("clashes 2", 0);
        x.due("clashes 3", 0);
        x.ask("LIFT_IMPLY 0 1");
        x.due("clashes 3", 1);
        x.due("clashes 4", 1);
        x.votes(3, "0+ 1+ 2+", TagRoot.PASSED);
        x.due("clashes 4", 0);
        x.due("clashes 1", 1);
        x.due("clashes 2", 1);
    }

    private static void promise18ByCircles() {
        says("the second one could not any more behind the first one: for a circle");
        Run x = new Run(6, 0);
        x.pass("IMPLY 0 1");
        x.pass("IMPLY 2 3");
        x.ask("IMPLY 1 2");
        x.ask("IMPLY 3 0");
        x.ask("ALIAS 3 0");
        x.ask("ALIAS 0 3");
        x.ask("IMPLY 4 5");
        x.due("clashes 2", 3);
        x.due("clashes 3", 3);
        x.due("clashes 4", 3);
        x.due("clashes 5", 3);
        x.due("clashes 6", 0);
    }

    private static void promise18ByAliases() {
        says("the first one not behind the second one: for the tag has an alias, or its end is the tag itself");
        Run x = new Run(5, 0);
        x.ask("ALIAS 0 1");
        x.ask("ALIAS 0 2");
        x.ask("ALIAS 1 0");
        x.ask("ALIAS 1 2");
        x.ask("ALIAS 3 0");
        x.due("clashes 0", 2);
        x.due("clashes 1", 1);
        x.due("clashes 2", 2);
        x.due("clashes 3", 1);
        x.due("clashes 4", 0);
        x.ask("IMPLY 3 0");
        x.due("clashes 4", 1);
        x.due("clashes 5", 1);
    }

    private static void promise18ByAliasesThatStand() {
        says("not any more behind the first one: implications act from the ends of tags");
        Run x = new Run(7, 0);
        x.pass("ALIAS 1 2");
        x.pass("ALIAS 4 3");
        x.ask("IMPLY 2 3");
        x.ask("IMPLY 4 1");
        x.ask("IMPLY 4 5");
        x.due("clashes 2", 1);
        x.due("clashes 3", 1);
        x.due("clashes 4", 0);
        x.ask("ALIAS 5 6");
        x.ask("IMPLY 6 4");
        x.ask("ALIAS 6 4");
        x.due("clashes 5", 0);
        x.due("clashes 6", 1);
        x.due("clashes 7", 1);
        x.pass("LIFT_ALIAS 1 2");
        x.due("clashes 2", 0);
        x.due("clashes 3", 0);
    }

    private static void promise18ByImplicationsThatStandToATagWithAnAlias() {
        says("if there is none from the one to the other: an implication stands as it was asked for");
        Run x = new Run(5, 0);
        x.pass("IMPLY 0 1");
        x.pass("ALIAS 1 2");
        x.ask("ALIAS 3 4");
        x.ask("LIFT_IMPLY 0 1");
        x.ask("IMPLY 0 2");
        x.ask("LIFT_IMPLY 0 2");
        x.due("clashes 2", 0);
        x.due("clashes 3", 0);
        x.due("clashes 4", 0);
        x.due("clashes 5", 0);
    }

    private static void promise18ByLifts() {
        says("the second one could not any more behind the first one: for there is nothing to lift");
        Run x = new Run(4, 0);
        x.pass("ALIAS 0 1");
        x.pass("IMPLY 2 3");
        x.ask("LIFT_ALIAS 0 1");
        x.ask("LIFT_ALIAS 0 1");
        x.ask("LIFT_IMPLY 2 3");
        x.ask("LIFT_IMPLY 2 3");
        x.ask("LIFT_IMPLY 2 3");
        x.ask("IMPLY 0 2");
        x.due("clashes 2", 1);
        x.due("clashes 3", 1);
        x.due("clashes 4", 2);
        x.due("clashes 6", 2);
        x.due("clashes 7", 0);
    }

    private static void promise18VotesDoNotMatter() {
        says("Two open requests clash: whatever their votes, and none is changed by the question");
        Run x = new Run(3, 1);
        x.due("tag 0 0", true);
        x.votes(x.ask("IMPLY 0 1"), "0- 1-", TagRoot.OPEN);
        x.votes(x.ask("IMPLY 1 0"), "0+ 1+", TagRoot.OPEN);
        x.due("clashes 0", 1);
        x.due("clashes 1", 1);
        x.due("implies 0 1", false);
        x.due("implies 1 0", false);
        x.due("standing 0", TagRoot.OPEN);
        x.due("standing 1", TagRoot.OPEN);
        x.dueShown(0, 1);
        x.votes(1, "2+", TagRoot.PASSED);
    }

    // ---- 19 alias, 20 end and 21 implies

    private static void promise19NoSuchTag() {
        says("if there is no such tag");
        new Run().refusedEach("alias ?", beyond(0), INDEX);
        busy().refusedEach("alias ?", beyond(5), INDEX);
        full().refusedEach("alias ?", beyond(24), INDEX);
    }

    private static void promise19NoneIfItHasNone() {
        says("Returns the tag to which its alias leads; NONE if it has none");
        Run x = new Run(24, 0);
        x.due("alias 0", -1);
        x.due("alias 23", -1);
        x.pass("ALIAS 23 0");
        x.due("alias 23", 0);
        x.pass("ALIAS 0 22");
        x.due("alias 23", 0);
        x.due("alias 0", 22);
        x.due("alias 22", -1);
        x.pass("LIFT_ALIAS 23 0");
        x.due("alias 23", -1);
        x.due("alias 0", 22);
    }

    private static void promise20NoSuchTag() {
        says("if there is no such tag");
        new Run().refusedEach("end ?", beyond(0), INDEX);
        busy().refusedEach("end ?", beyond(5), INDEX);
        full().refusedEach("end ?", beyond(24), INDEX);
    }

    private static void promise20TheTagItself() {
        says("The end of a tag is the tag itself, if it has no alias, otherwise the end of its alias");
        Run x = new Run(24, 0);
        x.due("end 0", 0);
        x.due("end 23", 23);
        for (int tag = 23; tag > 0; tag--) {
            x.pass("ALIAS " + tag + " " + (tag - 1));
            x.due("end 23", tag - 1);
        }
        for (int tag = 0; tag < 24; tag++) {
            x.due("end " + tag, 0);
        }
        x.pass("LIFT_ALIAS 1 0");
        x.due("end 23", 1);
        x.due("end 0", 0);
        x.pass("LIFT_ALIAS 23 22");
        x.due("end 23", 23);
        x.due("end 22", 1);
    }

    private static void promise20ANewTag() {
        says("The end of a tag is the tag itself, if it has no alias: a new one behind others with aliases");
        Run x = new Run(2, 0);
        x.pass("ALIAS 1 0");
        x.name("zz", 2);
        x.due("end 2", 2);
        x.due("alias 2", -1);
        x.due("end 1", 0);
        x.pass("ALIAS 0 2");
        x.due("end 1", 2);
    }

    private static void promise21NoSuchTagOfEither() {
        says("if there is no such tag, of either");
        new Run().refusedEach("implies ? 0", beyond(0), INDEX);
        busy().refusedEach("implies ? 0", beyond(5), INDEX);
        busy().refusedEach("implies 0 ?", beyond(5), INDEX);
        full().refusedEach("implies ? 23", beyond(24), INDEX);
        full().refusedEach("implies 22 ?", beyond(24), INDEX);
        full().refused("implies 24 24", INDEX);
    }

    private static void promise21AsItWasAskedFor() {
        says("from a tag to another one, as it was asked for");
        Run x = new Run(24, 0);
        x.pass("IMPLY 0 23");
        x.due("implies 0 23", true);
        x.due("implies 23 0", false);
        x.due("implies 0 0", false);
        x.pass("ALIAS 0 1");
        x.pass("ALIAS 23 22");
        x.due("implies 0 23", true);
        x.due("implies 1 22", false);
        x.due("implies 1 23", false);
        x.due("implies 0 22", false);
        x.pass("IMPLY 22 21");
        x.due("implies 0 21", false);
        x.pass("LIFT_IMPLY 0 23");
        x.due("implies 0 23", false);
        x.due("implies 22 21", true);
    }

    private static void promise21AllOthers() {
        says("whether there is an implication: from one tag to all 23 others");
        Run x = new Run(24, 0);
        for (int other = 0; other < 24; other++) {
            if (other != 12) {
                x.pass("IMPLY 12 " + other);
            }
        }
        for (int other = 0; other < 24; other++) {
            x.due("implies 12 " + other, other != 12);
            x.due("implies " + other + " 12", false);
        }
    }

    // ---- 22 shown and 23 shownByHand

    private static void promise22NoSuchThing() {
        says("if there is no such thing");
        new Run(1, 0).refusedEach("shown ?", beyond(0), INDEX);
        busy().refusedEach("shown ?", beyond(3), INDEX);
        full().refusedEach("shown ?", beyond(20), INDEX);
        Run x = full();
        x.due("shown 0", 3 << 22);
        x.due("shown 19", 1 << 23);
    }

    private static void promise22FromNoTagToAll24() {
        says("Returns the set of the tags that a thing shows");
        Run x = new Run(24, 20);
        x.dueShown(0, 0);
        x.dueShown(19, 0);
        x.due("tag 19 23", true);
        x.dueShown(19, 1 << 23);
        for (int tag = 23; tag > 0; tag--) {
            x.pass("IMPLY " + tag + " " + (tag - 1));
            x.dueShown(19, ALL_24 & ~((1 << tag - 1) - 1));
        }
        x.dueShown(19, ALL_24);
        x.dueShown(18, 0);
        x.due("tag 0 0", true);
        x.dueShown(0, 1);
    }

    private static void promise22TheEndsOfTagsByHand() {
        says("The tags that a thing shows are the ends of all tags that are set for it by hand");
        Run x = new Run(24, 2);
        x.due("tag 0 0", true);
        x.due("tag 1 0", true);
        x.due("tag 1 23", true);
        x.pass("ALIAS 0 1");
        x.dueShown(0, 2);
        x.pass("ALIAS 1 23");
        x.dueShown(0, 1 << 23);
        x.dueShown(1, 1 << 23);
        x.pass("LIFT_ALIAS 0 1");
        x.dueShown(0, 1);
        x.dueShown(1, 1 + (1 << 23));
    }

    private static void promise22ToWhichAnImplicationActs() {
        says("and each tag to which an implication acts from a tag that it shows");
        Run x = new Run(7, 2);
        x.pass("IMPLY 0 1");
        x.pass("IMPLY 1 2");
        x.pass("IMPLY 3 4");
        x.due("tag 0 0", true);
        x.due("tag 1 2", true);
        x.dueShown(0, 7);
        x.dueShown(1, 4);
        x.pass("ALIAS 2 3");
        x.dueShown(0, 1 + 2 + 8 + 16);
        x.dueShown(1, 8 + 16);
        x.pass("ALIAS 0 5");
        x.dueShown(0, 32 + 2 + 8 + 16);
    }

    private static void promise22OnlyWhatTheyAdded() {
        says("implications add tags and take only what they added when they are lifted");
        Run x = new Run(4, 4);
        x.pass("IMPLY 0 1");
        x.pass("IMPLY 2 1");
        x.pass("IMPLY 1 3");
        x.due("tag 0 0", true);
        x.due("tag 1 0", true);
        x.due("tag 1 2", true);
        x.due("tag 2 0", true);
        x.due("tag 2 1", true);
        x.due("tag 3 0", true);
        x.due("tag 3 3", true);
        x.pass("LIFT_IMPLY 0 1");
        x.dueShown(0, 1);
        x.dueShown(1, 15);
        x.dueShown(2, 1 + 2 + 8);
        x.dueShown(3, 1 + 8);
        x.pass("LIFT_IMPLY 2 1");
        x.dueShown(1, 5);
        x.dueShown(2, 1 + 2 + 8);
    }

    private static void promise22TwoThatActAlike() {
        says("take only what they added: another one that acts alike stays");
        Run x = new Run(4, 1);
        x.pass("ALIAS 1 0");
        x.pass("IMPLY 0 2");
        x.pass("IMPLY 1 2");
        x.due("tag 0 0", true);
        x.dueShown(0, 5);
        x.pass("LIFT_IMPLY 0 2");
        x.dueShown(0, 5);
        x.pass("LIFT_ALIAS 1 0");
        x.dueShown(0, 1);
        x.due("tag 0 1", true);
        x.dueShown(0, 7);
    }

    private static void promise22BehindEachEdit() {
        says("kept by rows of bits for each tag: behind tag, untag, mass and undo");
        Run x = new Run(3, 2);
        x.pass("IMPLY 0 1");
        x.due("tag 1 0", true);
        x.dueShown(1, 3);
        x.due("mass ADD 1 2", 1);
        x.dueShown(1, 7);
        x.due("untag 1 0", true);
        x.dueShown(1, 4);
        x.due("undo", 1);
        x.dueShown(1, 7);
        x.due("mass REPLACE 0 1", 1);
        x.dueShown(1, 6);
        x.due("mass TAKE 1 1", 1);
        x.dueShown(1, 4);
        x.due("undo", 1);
        x.due("undo", 1);
        x.dueShown(1, 7);
        x.dueShown(0, 0);
    }

    private static void promise23NoSuchThing() {
        says("if there is no such thing");
        new Run(1, 0).refusedEach("shownByHand ?", beyond(0), INDEX);
        busy().refusedEach("shownByHand ?", beyond(3), INDEX);
        full().refusedEach("shownByHand ?", beyond(20), INDEX);
        Run x = full();
        x.due("shownByHand 0", 3 << 22);
        x.due("shownByHand 19", 1 << 23);
    }

    private static void promise23TheSame() {
        says("Returns the same, worked out anew from the tags that are set by hand: from no tag to all 24");
        Run x = new Run(24, 20);
        x.pass("ALIAS 0 1");
        x.pass("IMPLY 1 23");
        x.due("shownByHand 19", 0);
        x.due("tag 19 0", true);
        x.due("shownByHand 19", 2 + (1 << 23));
        x.pass("LIFT_ALIAS 0 1");
        x.due("shownByHand 19", 1);
        for (int tag = 1; tag < 24; tag++) {
            x.due("tag 19 " + tag, true);
        }
        x.due("shownByHand 19", ALL_24);
        x.due("shown 19", ALL_24);
        x.due("shownByHand 18", 0);
    }

    // ---- 24 users

    private static void promise24NoSuchTag() {
        says("if there is no such tag");
        new Run().refusedEach("users ?", beyond(0), INDEX);
        busy().refusedEach("users ?", beyond(5), INDEX);
        full().refusedEach("users ?", beyond(24), INDEX);
        Run x = full();
        x.due("users 23", 2);
        x.due("users 0", 0);
    }

    private static void promise24From0To20() {
        says("Returns how many things show a tag");
        Run x = new Run(24, 20);
        x.pass("IMPLY 0 23");
        for (int thing = 0; thing < 20; thing++) {
            x.due("users 0", thing);
            x.due("users 23", thing);
            x.due("tag " + thing + " 0", true);
        }
        x.due("users 0", 20);
        x.due("users 23", 20);
        x.due("tag 19 23", true);
        x.due("users 23", 20);
        x.due("untag 19 0", true);
        x.due("users 0", 19);
        x.due("users 23", 20);
    }

    private static void promise24ATagWithAnAlias() {
        says("0 for a tag that has an alias");
        Run x = new Run(4, 2);
        x.due("tag 0 0", true);
        x.due("tag 1 1", true);
        x.pass("IMPLY 2 0");
        x.due("tag 1 2", true);
        x.due("users 0", 2);
        x.pass("ALIAS 0 3");
        x.due("users 0", 0);
        x.due("users 3", 2);
        x.due("tag 1 0", true);
        x.due("users 0", 0);
        x.pass("LIFT_ALIAS 0 3");
        x.due("users 0", 2);
        x.due("users 3", 0);
    }

    // ---- 25 reason

    private static void promise25NoSuchThing() {
        says("if there is no such thing");
        new Run(1, 0).refusedEach("reason ? 0", beyond(0), INDEX);
        busy().refusedEach("reason ? 0", beyond(3), INDEX);
        full().refusedEach("reason ? 23", beyond(20), INDEX);
    }

    private static void promise25NoSuchTag() {
        says("or tag");
        new Run(0, 1).refusedEach("reason 0 ?", beyond(0), INDEX);
        busy().refusedEach("reason 0 ?", beyond(5), INDEX);
        full().refusedEach("reason 19 ?", beyond(24), INDEX);
        busy().refused("reason 3 5", INDEX);
    }

    private static void promise25NoneIfItIsNotShown() {
        says("NONE if the thing does not show the tag");
        Run x = new Run(4, 2);
        x.due("reason 0 0", -1);
        x.pass("IMPLY 0 1");
        x.due("tag 0 1", true);
        x.due("reason 0 0", -1);
        x.due("reason 1 1", -1);
        x.pass("ALIAS 1 2");
        x.due("reason 0 1", -1);
        x.due("reason 0 2", 1);
        x.due("reason 0 3", -1);
    }

    private static void promise25From0To23Implications() {
        says("the least number of implications: from 0 to 23");
        Run x = new Run(24, 1);
        x.due("tag 0 0", true);
        for (int tag = 0; tag < 23; tag++) {
            x.pass("IMPLY " + tag + " " + (tag + 1));
        }
        for (int tag = 0; tag < 24; tag++) {
            x.due("reason 0 " + tag, 100 * tag);
        }
        x.due("tag 0 23", true);
        x.due("reason 0 23", 23);
        x.due("reason 0 22", 2200);
    }

    private static void promise25TheTagThatIsSetByHand() {
        says("100 times that number of implications, and the tag that is set by hand, together: the last tag");
        Run x = new Run(24, 1);
        x.due("tag 0 23", true);
        x.due("reason 0 23", 23);
        for (int tag = 23; tag > 0; tag--) {
            x.pass("IMPLY " + tag + " " + (tag - 1));
        }
        x.due("reason 0 22", 123);
        x.due("reason 0 0", 2323);
    }

    private static void promise25OverAnAlias() {
        says("by which one comes from the end of that tag to the one that is shown");
        Run x = new Run(6, 1);
        x.pass("ALIAS 5 2");
        x.pass("IMPLY 2 3");
        x.pass("IMPLY 5 4");
        x.due("tag 0 5", true);
        x.due("reason 0 2", 5);
        x.due("reason 0 3", 105);
        x.due("reason 0 4", 105);
        x.due("tag 0 2", true);
        x.due("reason 0 2", 2);
        x.due("reason 0 4", 102);
        x.due("reason 0 5", -1);
    }

    private static void promise25TheLeast() {
        says("over all tags that are set for it by hand, the least number of implications");
        Run x = new Run(6, 1);
        x.pass("IMPLY 0 1");
        x.pass("IMPLY 1 2");
        x.pass("IMPLY 5 2");
        x.due("tag 0 0", true);
        x.due("reason 0 2", 200);
        x.due("tag 0 5", true);
        x.due("reason 0 2", 105);
        x.pass("IMPLY 0 2");
        x.due("reason 0 2", 100);
        x.pass("LIFT_IMPLY 0 2");
        x.due("untag 0 5", true);
        x.due("reason 0 2", 200);
    }

    private static void promise25TheLowest() {
        says("of several tags with which that is least the lowest one");
        Run x = new Run(24, 1);
        x.pass("IMPLY 23 10");
        x.pass("IMPLY 22 10");
        x.pass("IMPLY 1 10");
        x.due("tag 0 23", true);
        x.due("reason 0 10", 123);
        x.due("tag 0 22", true);
        x.due("reason 0 10", 122);
        x.due("tag 0 1", true);
        x.due("reason 0 10", 101);
        x.pass("ALIAS 0 22");
        x.due("reason 0 22", 22);
        x.due("tag 0 0", true);
        x.due("reason 0 22", 0);
        x.due("reason 0 10", 100);
    }

    private static void promise25BehindUndo() {
        says("over all tags that are set for it by hand: those that are set behind undo()");
        Run x = new Run(3, 2);
        x.pass("IMPLY 0 1");
        x.due("tag 0 0", true);
        x.due("reason 0 1", 100);
        x.due("undo", 1);
        x.due("reason 0 0", TagRoot.NONE);
        x.due("reason 0 1", TagRoot.NONE);
        x.due("tag 1 1", true);
        x.due("mass REPLACE 1 2", 1);
        x.due("undo", 1);
        x.due("reason 1 1", 1);
        x.due("reason 1 2", TagRoot.NONE);
    }

    // ---- 26 count

    private static void promise26SetsBelow0() {
        says("if a set is below 0");
        Run x = busy();
        for (String set : List.of("-1", "MIN", "-2147483647", "-32")) {
            x.refused("count " + set + " 0 0", ARGUMENT);
            x.refused("count 0 " + set + " 0", ARGUMENT);
            x.refused("count 0 0 " + set, ARGUMENT);
        }
        full().refused("count -1 -1 -1", ARGUMENT);
        new Run().refused("count 0 0 -1", ARGUMENT);
    }

    private static void promise26SetsWithATagThatThereIsNot() {
        says("or has a tag that there is not");
        Run x = busy();
        x.due("count 31 31 31", 0);
        for (String set : List.of("32", "33", "63", "16777216", "1073741824", "MAX")) {
            x.refused("count " + set + " 0 0", ARGUMENT);
            x.refused("count 0 " + set + " 0", ARGUMENT);
            x.refused("count 0 0 " + set, ARGUMENT);
        }
    }

    private static void promise26SetsOf24Tags() {
        says("or has a tag that there is not: with 24 tags");
        Run x = full();
        x.due("count 0 0 " + ALL_24, 18);
        x.due("count 0 " + ALL_24 + " 0", 2);
        x.due("count " + ALL_24 + " 0 0", 0);
        for (String set : List.of("16777216", "16777217", "33554431", "MAX")) {
            x.refused("count " + set + " 0 0", ARGUMENT);
            x.refused("count 0 " + set + " 0", ARGUMENT);
            x.refused("count 0 0 " + set, ARGUMENT);
        }
    }

    private static void promise26SetsWithoutTags() {
        says("or has a tag that there is not: with no tag");
        Run x = new Run(0, 20);
        x.due("count 0 0 0", 20);
        x.refused("count 1 0 0", ARGUMENT);
        x.refused("count 0 1 0", ARGUMENT);
        x.refused("count 0 0 1", ARGUMENT);
        x.name("a", 0);
        x.due("count 1 0 0", 0);
        x.due("count 0 0 1", 20);
        x.refused("count 0 0 2", ARGUMENT);
    }

    private static void promise26All() {
        says("the things that show all tags of a set: none, one, several");
        Run x = new Run(3, 4);
        x.due("tag 1 0", true);
        x.due("tag 2 0", true);
        x.due("tag 2 1", true);
        x.due("tag 3 2", true);
        x.due("count 0 0 0", 4);
        x.due("count 1 0 0", 2);
        x.due("count 3 0 0", 1);
        x.due("count 7 0 0", 0);
    }

    private static void promise26AnyUnlessEmpty() {
        says("at least one of a second set, unless that is empty");
        Run x = new Run(3, 4);
        x.due("tag 1 0", true);
        x.due("tag 2 0", true);
        x.due("tag 2 1", true);
        x.due("count 0 0 0", 4);
        x.due("count 0 1 0", 2);
        x.due("count 0 2 0", 1);
        x.due("count 0 3 0", 2);
        x.due("count 0 4 0", 0);
        x.due("count 0 7 0", 2);
        x.due("count 1 2 0", 1);
    }

    private static void promise26None() {
        says("and none of a third set");
        Run x = new Run(3, 4);
        x.due("tag 1 0", true);
        x.due("tag 2 0", true);
        x.due("tag 2 1", true);
        x.due("count 0 0 4", 4);
        x.due("count 0 0 2", 3);
        x.due("count 0 0 1", 2);
        x.due("count 0 0 3", 2);
        x.due("count 1 0 2", 1);
        x.due("count 1 0 1", 0);
        x.due("count 0 1 1", 0);
    }

    private static void promise26EachTagStandsForItsEnd() {
        says("each tag of a set stands for its end");
        Run x = new Run(4, 3);
        x.pass("ALIAS 0 1");
        x.due("tag 0 0", true);
        x.due("tag 1 1", true);
        x.due("count 1 0 0", 2);
        x.due("count 3 0 0", 2);
        x.due("count 0 1 0", 2);
        x.due("count 0 0 1", 1);
        x.due("count 1 0 2", 0);
        x.pass("ALIAS 1 3");
        x.due("count 1 0 0", 2);
        x.due("count 11 0 0", 2);
        x.due("count 0 4 1", 0);
        x.pass("LIFT_ALIAS 0 1");
        x.due("count 1 0 0", 1);
        x.due("count 2 0 0", 1);
    }

    private static void promise26WithoutThings() {
        says("Counts the things: without any");
        Run x = new Run(2, 0);
        x.due("count 0 0 0", 0);
        x.due("count 0 0 3", 0);
        x.due("count 0 3 0", 0);
        x.due("count 3 0 0", 0);
    }

    // ---- 27 match

    private static void promise27PlaceBelow0() {
        says("if place is below 0");
        busy().refusedEach("match ? 0 0 0", new String[] {"-1", "-2", "-32", "MIN"}, INDEX);
        new Run().refused("match -1 0 0 0", INDEX);
    }

    private static void promise27PlaceBelow0ComesFirst() {
        says("if place is below 0, whatever the sets");
        Run x = busy();
        x.refused("match -1 32 0 0", INDEX);
        x.refused("match -1 0 -1 0", INDEX);
        x.refused("match MIN 0 0 MAX", INDEX);
        x.refused("match -1 -1 32 MIN", INDEX);
    }

    private static void promise27NoSuchPlace() {
        says("or, the sets being as told, there is no such place");
        Run x = new Run(2, 5);
        x.due("tag 1 0", true);
        x.due("tag 3 0", true);
        x.due("match 0 1 0 0", 1);
        x.due("match 1 1 0 0", 3);
        x.refusedEach("match ? 1 0 0", new String[] {"2", "3", "5", "32", "MAX"}, INDEX);
        x.due("match 2 0 0 1", 4);
        x.refused("match 3 0 0 1", INDEX);
        x.refused("match 0 2 0 0", INDEX);
        x.due("match 4 0 0 0", 4);
        x.refused("match 5 0 0 0", INDEX);
    }

    private static void promise27SetsComeAheadOfAPlaceTooFar() {
        says("the sets being as told: a place too far with wrong sets");
        Run x = busy();
        x.refused("match 3 32 0 0", ARGUMENT);
        x.refused("match MAX 0 -1 0", ARGUMENT);
        x.refused("match 32 0 0 MIN", ARGUMENT);
        new Run().refused("match 0 1 0 0", ARGUMENT);
    }

    private static void promise27WrongSets() {
        says("if a set is below 0, or has a tag that there is not");
        Run x = busy();
        x.due("match 0 0 0 31", INDEX);
        for (String set : List.of("-1", "MIN", "32", "63", "MAX")) {
            x.refused("match 0 " + set + " 0 0", ARGUMENT);
            x.refused("match 0 0 " + set + " 0", ARGUMENT);
            x.refused("match 0 0 0 " + set, ARGUMENT);
        }
        Run y = full();
        y.due("match 0 0 0 " + ALL_24, 1);
        y.refused("match 0 16777216 0 0", ARGUMENT);
        y.refused("match 0 0 16777216 0", ARGUMENT);
        y.refused("match 0 0 0 16777216", ARGUMENT);
    }

    private static void promise27FirstAndLastOf20() {
        says("0 for the one with the lowest number");
        Run x = new Run(24, 20);
        for (int place = 0; place < 20; place++) {
            x.due("match " + place + " 0 0 0", place);
        }
        x.refused("match 20 0 0 0", INDEX);
        x.due("tag 19 23", true);
        x.due("match 0 " + (1 << 23) + " 0 0", 19);
        x.refused("match 1 " + (1 << 23) + " 0 0", INDEX);
        x.due("tag 0 23", true);
        x.due("match 0 " + (1 << 23) + " 0 0", 0);
        x.due("match 1 0 " + (1 << 23) + " 0", 19);
        x.due("match 0 0 0 " + (1 << 23), 1);
    }

    private static void promise27WithoutThings() {
        says("there is no such place: without things");
        Run x = new Run(1, 0);
        x.refused("match 0 0 0 0", INDEX);
        x.refused("match 0 1 1 1", INDEX);
    }

    // ---- the last of 512 calls

    private static void promise27TheLastOf512Calls() {
        says("An object is used for at most 512 calls after it has been made");
        Run x = full();
        while (x.calls.size() < MOST_CALLS - 8) {
            x.due("tag 5 5", true);
            x.due("untag 5 5", true);
        }
        x.due("kept", 20);
        x.due("undo", 1);
        x.due("hand 5", 32);
        x.due("tag 5 22", true);
        x.dueShown(5, 32 + (3 << 22));
        x.due("reason 5 23", 122);
    }
}
