import java.util.ArrayList;
import java.util.HashSet;
import java.util.List;
import java.util.Random;
import java.util.Set;
import java.util.TreeSet;

/** Runs of drawn calls, each answered by TagRoot and by a keeper written word for word after the document. */
public final class ModelTests {
    private static final int RUNS = 4000;
    private static final int CALLS = 512;

    public static void main(String[] args) {
        int wrong = 0;
        for (int run = 0; run < RUNS && wrong < 5; run++) {
            if (!new Run(run).agrees()) {
                wrong++;
            }
        }
        System.out.println("ModelTests: " + RUNS + " runs, " + wrong + " wrong");
        if (wrong != 0) {
            System.exit(1);
        }
    }

    /** One run on one object; the seed makes it the same every time. */
    private static final class Run {
        final int seed;
        final Random random;
        final TagRoot keeper = new TagRoot();
        final Model model = new Model();
        final List<String> told = new ArrayList<>();
        final int mostTags;
        final int mostThings;

        Run(int seed) {
            this.seed = seed;
            random = new Random(seed);
            mostTags = seed % 10 == 0 ? 24 : 2 + random.nextInt(7);
            mostThings = seed % 7 == 0 ? 20 : 1 + random.nextInt(5);
        }

        boolean agrees() {
            int kindOfRun = seed % 4;
            for (int call = 0; call < CALLS; call++) {
                String what = draw(kindOfRun);
                String[] words = what.split(" ");
                String got = answer(words, false);
                String want = answer(words, true);
                told.add(what + " -> " + got);
                if (!got.equals(want)) {
                    System.out.println("run " + seed + ", call " + call + ": " + what
                            + " answered " + got + ", due is " + want);
                    System.out.println("  ahead of it: " + told.subList(Math.max(0, call - 30), call));
                    return false;
                }
            }
            return true;
        }

        private String draw(int kindOfRun) {
            if (model.tags() < mostTags && random.nextInt(3) > 0) {
                return drawName();
            }
            if (model.things() < mostThings && random.nextInt(4) == 0) {
                return "addThing";
            }
            int weight = random.nextInt(100);
            if (weight < 3) {
                return random.nextInt(3) == 0 ? "addThing" : drawName();
            }
            int handWeight = kindOfRun == 0 ? 55 : 20;
            if (weight < handWeight) {
                return drawHand();
            }
            return weight < handWeight + 35 && kindOfRun != 0 ? drawRule() : drawQuestion();
        }

        private String drawName() {
            if (random.nextInt(3) == 0) {
                return "enter";
            }
            String characters = random.nextInt(20) == 0 ? "@[`{,. 0" : "aAbBcC-_";
            return "type " + (int) characters.charAt(random.nextInt(characters.length()));
        }

        private String drawHand() {
            switch (random.nextInt(8)) {
                case 0: case 1: case 2:
                    return "tag " + thing() + " " + tag();
                case 3: case 4:
                    return "untag " + thing() + " " + tag();
                case 5:
                    return random.nextInt(2) == 0 ? "undo" : "kept";
                default:
                    return "mass " + (random.nextInt(20) == 0 ? random.nextInt(6) - 2 : random.nextInt(3))
                            + " " + tag() + " " + tag();
            }
        }

        private String drawRule() {
            int draw = random.nextInt(20);
            if (draw < 4) {
                return random.nextInt(8) == 0 ? drawLift()
                        : "ask " + (random.nextInt(20) == 0 ? random.nextInt(8) - 2 : random.nextInt(5) > 1 ? 1 : 0)
                        + " " + tag() + " " + tag();
            }
            if (draw < 17) {
                return seed % 3 > 0 ? drawVoteInTurn() : drawVote();
            }
            return (draw < 18 ? "clashes " : draw < 19 ? "couldPass " : "standing ") + request();
        }

        private String drawVote() {
            int voter = random.nextInt(30) == 0 ? random.nextInt(16) - 3 : random.nextInt(10);
            return "vote " + request() + " " + voter + " " + (random.nextInt(5) > 0 ? 1 : 0);
        }

        /** Votes so that most requests are decided soon, and rules are many. */
        private String drawVoteInTurn() {
            int request = request();
            int voter = 0;
            if (request >= 0 && request < model.requests.size()) {
                voter = model.requests.get(request).votersFor.size();
            }
            return "vote " + request + " " + voter + " " + (random.nextInt(30) > 0 ? 1 : 0);
        }

        /** Asks to lift a rule that there is, if the one that is drawn is there. */
        private String drawLift() {
            for (int attempt = 0; attempt < 20; attempt++) {
                int tag = random.nextInt(24);
                int other = random.nextInt(24);
                if (model.rules.implied[tag][other]) {
                    return "ask 3 " + tag + " " + other;
                }
                if (model.rules.alias[tag] >= 0) {
                    return "ask 2 " + tag + " " + model.rules.alias[tag];
                }
            }
            return "ask 3 " + tag() + " " + tag();
        }

        private String drawQuestion() {
            switch (random.nextInt(15)) {
                case 0: return "tags";
                case 1: return "letter " + tag() + " " + (random.nextInt(11) - 1);
                case 2: return "things";
                case 3: return "hand " + thing();
                case 4: return "alias " + tag();
                case 5: return "end " + tag();
                case 6: return "implies " + tag() + " " + tag();
                case 7: return "shown " + thing();
                case 8: return "shownByHand " + thing();
                case 9: return "users " + tag();
                case 10: case 11: return "reason " + thing() + " " + tag();
                case 12: return "count " + set() + " " + set() + " " + set();
                case 13: return "match " + (random.nextInt(6) - 1) + " " + set() + " " + set() + " " + set();
                default: return "clashes " + request();
            }
        }

        private int tag() {
            return random.nextInt(40) == 0 ? random.nextInt(28) - 2 : random.nextInt(Math.max(1, model.tags()));
        }

        private int thing() {
            return random.nextInt(40) == 0 ? random.nextInt(24) - 2 : random.nextInt(Math.max(1, model.things()));
        }

        private int request() {
            int size = model.requests.size();
            if (random.nextInt(60) == 0) {
                return random.nextInt(44) - 2;
            }
            int drawn = random.nextInt(size + 1);
            for (int request = drawn; request < size; request++) {
                if (model.requests.get(request).standing == TagRoot.OPEN && random.nextInt(3) > 0) {
                    return request;
                }
            }
            return random.nextBoolean() ? random.nextInt(size + 1) : Math.max(0, size - 1 - random.nextInt(4));
        }

        private int set() {
            if (random.nextInt(40) == 0) {
                return random.nextInt();
            }
            int set = 0;
            for (int member = random.nextInt(4); member > 0; member--) {
                set |= 1 << random.nextInt(Math.max(1, model.tags()));
            }
            return set;
        }

        private String answer(String[] words, boolean isModel) {
            int[] n = new int[4];
            for (int word = 1; word < words.length; word++) {
                n[word - 1] = Integer.parseInt(words[word]);
            }
            try {
                return String.valueOf(isModel ? modelAnswer(words[0], n) : keeperAnswer(words[0], n));
            } catch (RuntimeException e) {
                return e.getClass().getSimpleName();
            }
        }

        private Object keeperAnswer(String name, int[] n) {
            switch (name) {
                case "type": return keeper.type((char) n[0]);
                case "enter": return keeper.enter();
                case "tags": return keeper.tags();
                case "letter": return keeper.letter(n[0], n[1]);
                case "addThing": return keeper.addThing();
                case "things": return keeper.things();
                case "tag": return keeper.tag(n[0], n[1]);
                case "untag": return keeper.untag(n[0], n[1]);
                case "mass": return keeper.mass(n[0], n[1], n[2]);
                case "undo": return keeper.undo();
                case "kept": return keeper.kept();
                case "hand": return keeper.hand(n[0]);
                case "ask": return keeper.ask(n[0], n[1], n[2]);
                case "vote": return keeper.vote(n[0], n[1], n[2] == 1);
                case "standing": return keeper.standing(n[0]);
                case "couldPass": return keeper.couldPass(n[0]);
                case "clashes": return keeper.clashes(n[0]);
                case "alias": return keeper.alias(n[0]);
                case "end": return keeper.end(n[0]);
                case "implies": return keeper.implies(n[0], n[1]);
                case "shown": return keeper.shown(n[0]);
                case "shownByHand": return keeper.shownByHand(n[0]);
                case "users": return keeper.users(n[0]);
                case "reason": return keeper.reason(n[0], n[1]);
                case "count": return keeper.count(n[0], n[1], n[2]);
                case "match": return keeper.match(n[0], n[1], n[2], n[3]);
                default: throw new UnsupportedOperationException(name);
            }
        }

        private Object modelAnswer(String name, int[] n) {
            switch (name) {
                case "type": return model.type((char) n[0]);
                case "enter": return model.enter();
                case "tags": return model.tags();
                case "letter": return model.letter(n[0], n[1]);
                case "addThing": return model.addThing();
                case "things": return model.things();
                case "tag": return model.setByHand(n[0], n[1], true);
                case "untag": return model.setByHand(n[0], n[1], false);
                case "mass": return model.mass(n[0], n[1], n[2]);
                case "undo": return model.undo();
                case "kept": return model.changes.size();
                case "hand": return model.sum(model.hand(n[0]));
                case "ask": return model.ask(n[0], n[1], n[2]);
                case "vote": return model.vote(n[0], n[1], n[2] == 1);
                case "standing": return model.request(n[0]).standing;
                case "couldPass": return model.couldPass(model.request(n[0]));
                case "clashes": return model.clashes(n[0]);
                case "alias": return model.alias(n[0]);
                case "end": return model.end(n[0]);
                case "implies": return model.implies(n[0], n[1]);
                case "shown": case "shownByHand": return model.sum(model.shown(model.hand(n[0])));
                case "users": return model.users(n[0]);
                case "reason": return model.reason(n[0], n[1]);
                case "count": return model.counted(n[0], n[1], n[2]).size();
                case "match": return model.match(n[0], n[1], n[2], n[3]);
                default: throw new UnsupportedOperationException(name);
            }
        }
    }

    private static final class Request {
        int kind;
        int tag;
        int other;
        int standing;
        final Set<Integer> votersFor = new HashSet<>();
        final Set<Integer> votersAgainst = new HashSet<>();
    }

    /** The aliases and implications that there are at some time, and the document's words on them. */
    private static final class Ruling {
        final int[] alias = new int[24];
        final boolean[][] implied = new boolean[24][24];

        Ruling copy() {
            Ruling copy = new Ruling();
            for (int tag = 0; tag < 24; tag++) {
                copy.alias[tag] = alias[tag];
                copy.implied[tag] = implied[tag].clone();
            }
            return copy;
        }

        int end(int tag) {
            return alias[tag] < 0 ? tag : end(alias[tag]);
        }

        boolean acts(int from, int to) {
            for (int tag = 0; tag < 24; tag++) {
                for (int other = 0; other < 24; other++) {
                    if (implied[tag][other] && end(tag) == from && end(other) == to) {
                        return true;
                    }
                }
            }
            return false;
        }

        boolean hasCircle() {
            int[] targets = new int[24];
            for (int tag = 0; tag < 24; tag++) {
                for (int other = 0; other < 24; other++) {
                    if (implied[tag][other]) {
                        targets[end(tag)] |= 1 << end(other);
                    }
                }
            }
            for (int start = 0; start < 24; start++) {
                int met = targets[start];
                for (int step = 0; step < 24; step++) {
                    for (int tag = 0; tag < 24; tag++) {
                        if ((met >> tag & 1) == 1) {
                            met |= targets[tag];
                        }
                    }
                }
                if ((met >> start & 1) == 1) {
                    return true;
                }
            }
            return false;
        }

        boolean allows(Request rule) {
            switch (rule.kind) {
                case TagRoot.ALIAS:
                    return alias[rule.tag] < 0 && end(rule.other) != rule.tag && !with(rule).hasCircle();
                case TagRoot.IMPLY:
                    return !implied[rule.tag][rule.other] && !with(rule).hasCircle();
                case TagRoot.LIFT_ALIAS:
                    return alias[rule.tag] == rule.other;
                default:
                    return implied[rule.tag][rule.other];
            }
        }

        Ruling with(Request rule) {
            Ruling result = copy();
            if (rule.kind == TagRoot.ALIAS || rule.kind == TagRoot.LIFT_ALIAS) {
                result.alias[rule.tag] = rule.kind == TagRoot.ALIAS ? rule.other : -1;
            } else {
                result.implied[rule.tag][rule.other] = rule.kind == TagRoot.IMPLY;
            }
            return result;
        }
    }

    private static final class Model {
        String draft = "";
        final List<String> names = new ArrayList<>();
        final List<Set<Integer>> hands = new ArrayList<>();
        final List<List<Set<Integer>>> changes = new ArrayList<>();
        final List<Request> requests = new ArrayList<>();
        Ruling rules = new Ruling();

        Model() {
            for (int tag = 0; tag < 24; tag++) {
                rules.alias[tag] = -1;
            }
        }

        int type(char character) {
            argument("abcdefghijklmnopqrstuvwxyzABCDEFGHIJKLMNOPQRSTUVWXYZ-_".indexOf(character) >= 0);
            state(draft.length() < 8);
            draft += character;
            return draft.length();
        }

        int enter() {
            state(!draft.isEmpty());
            int number = -1;
            for (int tag = 0; tag < names.size(); tag++) {
                if (spelling(names.get(tag)).equals(spelling(draft))) {
                    number = tag;
                }
            }
            state(number >= 0 || names.size() < 24);
            if (number < 0) {
                number = names.size();
                names.add(draft);
            }
            draft = "";
            return number;
        }

        private static String spelling(String name) {
            return name.toLowerCase(java.util.Locale.ROOT).replace('-', '_');
        }

        int tags() {
            return names.size();
        }

        char letter(int tag, int index) {
            needTag(tag);
            index(index >= 0 && index < names.get(tag).length());
            return names.get(tag).charAt(index);
        }

        int addThing() {
            state(hands.size() < 20);
            hands.add(new TreeSet<>());
            return hands.size() - 1;
        }

        int things() {
            return hands.size();
        }

        boolean setByHand(int thing, int tag, boolean isSet) {
            needThing(thing);
            needTag(tag);
            List<Set<Integer>> ahead = copyOfHands();
            boolean isChanged = isSet ? hands.get(thing).add(tag) : hands.get(thing).remove(tag);
            keep(ahead);
            return isChanged;
        }

        int mass(int kind, int tag, int other) {
            needTag(tag);
            needTag(other);
            argument(kind >= 0 && kind <= 2);
            List<Set<Integer>> ahead = copyOfHands();
            for (int thing = 0; thing < hands.size(); thing++) {
                Set<Integer> hand = hands.get(thing);
                boolean isShowing = shown(ahead.get(thing)).contains(rules.end(tag));
                if (kind == TagRoot.ADD && isShowing) {
                    hand.add(other);
                } else if (kind == TagRoot.TAKE && isShowing) {
                    hand.remove(other);
                } else if (kind == TagRoot.REPLACE && hand.contains(tag)) {
                    hand.remove(tag);
                    hand.add(other);
                }
            }
            return keep(ahead);
        }

        private List<Set<Integer>> copyOfHands() {
            List<Set<Integer>> copy = new ArrayList<>();
            for (Set<Integer> hand : hands) {
                copy.add(new TreeSet<>(hand));
            }
            return copy;
        }

        private int keep(List<Set<Integer>> ahead) {
            int changed = differing(ahead);
            if (changed > 0) {
                changes.add(ahead);
            }
            if (changes.size() > 20) {
                changes.remove(0);
            }
            return changed;
        }

        private int differing(List<Set<Integer>> ahead) {
            int changed = 0;
            for (int thing = 0; thing < ahead.size(); thing++) {
                changed += hands.get(thing).equals(ahead.get(thing)) ? 0 : 1;
            }
            return changed;
        }

        int undo() {
            state(!changes.isEmpty());
            List<Set<Integer>> ahead = changes.remove(changes.size() - 1);
            int changed = differing(ahead);
            for (int thing = 0; thing < ahead.size(); thing++) {
                hands.set(thing, ahead.get(thing));
            }
            return changed;
        }

        Set<Integer> hand(int thing) {
            needThing(thing);
            return hands.get(thing);
        }

        int ask(int kind, int tag, int other) {
            needTag(tag);
            needTag(other);
            argument(kind >= 0 && kind <= 3 && tag != other);
            state(requests.size() < 40);
            Request request = new Request();
            request.kind = kind;
            request.tag = tag;
            request.other = other;
            requests.add(request);
            return requests.size() - 1;
        }

        Request request(int number) {
            index(number >= 0 && number < requests.size());
            return requests.get(number);
        }

        int vote(int number, int voter, boolean isFor) {
            Request request = request(number);
            argument(voter >= 0 && voter <= 9);
            state(request.standing == TagRoot.OPEN);
            request.votersFor.remove(voter);
            request.votersAgainst.remove(voter);
            (isFor ? request.votersFor : request.votersAgainst).add(voter);
            int more = request.votersFor.size() - request.votersAgainst.size();
            if (more >= 3) {
                request.standing = rules.allows(request) ? TagRoot.PASSED : TagRoot.FAILED;
                if (request.standing == TagRoot.PASSED) {
                    rules = rules.with(request);
                }
            } else if (more <= -3) {
                request.standing = TagRoot.FAILED;
            }
            return request.standing;
        }

        boolean couldPass(Request request) {
            return request.standing == TagRoot.OPEN && rules.allows(request);
        }

        int clashes(int number) {
            Request request = request(number);
            int found = 0;
            for (Request other : requests) {
                if (other != request && couldPass(request) && couldPass(other)
                        && (!rules.with(request).allows(other) || !rules.with(other).allows(request))) {
                    found++;
                }
            }
            return found;
        }

        int alias(int tag) {
            needTag(tag);
            return rules.alias[tag];
        }

        int end(int tag) {
            needTag(tag);
            return rules.end(tag);
        }

        boolean implies(int tag, int other) {
            needTag(tag);
            needTag(other);
            return rules.implied[tag][other];
        }

        Set<Integer> shown(Set<Integer> hand) {
            Set<Integer> shown = new TreeSet<>();
            for (int tag : hand) {
                shown.add(rules.end(tag));
            }
            boolean isGrowing = true;
            while (isGrowing) {
                isGrowing = false;
                for (int tag = 0; tag < 24; tag++) {
                    for (int other = 0; other < 24; other++) {
                        if (rules.implied[tag][other] && shown.contains(rules.end(tag))) {
                            isGrowing |= shown.add(rules.end(other));
                        }
                    }
                }
            }
            return shown;
        }

        int sum(Set<Integer> set) {
            int sum = 0;
            for (int member : set) {
                sum += 1 << member;
            }
            return sum;
        }

        int users(int tag) {
            needTag(tag);
            int users = 0;
            for (Set<Integer> hand : hands) {
                users += shown(hand).contains(tag) ? 1 : 0;
            }
            return users;
        }

        int reason(int thing, int tag) {
            needThing(thing);
            needTag(tag);
            int best = -1;
            for (int source : hands.get(thing)) {
                int steps = steps(rules.end(source), tag);
                if (steps >= 0 && (best < 0 || steps < best / 100)) {
                    best = 100 * steps + source;
                }
            }
            return best;
        }

        private int steps(int from, int to) {
            Set<Integer> met = new TreeSet<>();
            met.add(from);
            for (int steps = 0; steps < 24; steps++) {
                if (met.contains(to)) {
                    return steps;
                }
                Set<Integer> further = new TreeSet<>(met);
                for (int tag : met) {
                    for (int other = 0; other < tags(); other++) {
                        if (rules.acts(tag, other)) {
                            further.add(other);
                        }
                    }
                }
                if (further.equals(met)) {
                    return -1;
                }
                met = further;
            }
            return -1;
        }

        List<Integer> counted(int all, int any, int none) {
            for (int set : new int[] {all, any, none}) {
                argument(set >= 0 && set < Math.pow(2, tags()));
            }
            List<Integer> counted = new ArrayList<>();
            for (int thing = 0; thing < hands.size(); thing++) {
                Set<Integer> shown = shown(hands.get(thing));
                Set<Integer> wanted = ends(all);
                Set<Integer> asked = ends(any);
                Set<Integer> unwanted = ends(none);
                asked.retainAll(shown);
                unwanted.retainAll(shown);
                if (shown.containsAll(wanted) && (any == 0 || !asked.isEmpty()) && unwanted.isEmpty()) {
                    counted.add(thing);
                }
            }
            return counted;
        }

        private Set<Integer> ends(int set) {
            Set<Integer> ends = new TreeSet<>();
            for (int tag = 0; tag < tags(); tag++) {
                if ((set >> tag) % 2 == 1) {
                    ends.add(rules.end(tag));
                }
            }
            return ends;
        }

        int match(int place, int all, int any, int none) {
            index(place >= 0);
            List<Integer> counted = counted(all, any, none);
            index(place < counted.size());
            return counted.get(place);
        }

        private void needTag(int tag) {
            index(tag >= 0 && tag < names.size());
        }

        private void needThing(int thing) {
            index(thing >= 0 && thing < hands.size());
        }

        private static void index(boolean isRight) {
            if (!isRight) {
                throw new IndexOutOfBoundsException();
            }
        }

        private static void argument(boolean isRight) {
            if (!isRight) {
                throw new IllegalArgumentException();
            }
        }

        private static void state(boolean isRight) {
            if (!isRight) {
                throw new IllegalStateException();
            }
        }
    }
}
