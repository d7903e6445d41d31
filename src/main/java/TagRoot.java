/** A keeper of tags for things, of the rules between tags, and of what things show by them. */
public final class TagRoot {
    public static final int NONE = -1;
    public static final int ALIAS = 0, IMPLY = 1, LIFT_ALIAS = 2, LIFT_IMPLY = 3;
    public static final int OPEN = 0, PASSED = 1, FAILED = 2;
    public static final int ADD = 0, TAKE = 1, REPLACE = 2;

    private static final int MOST_LETTERS = 8;
    private static final int MOST_TAGS = 24;
    private static final int MOST_THINGS = 20;
    private static final int MOST_REQUESTS = 40;
    private static final int MOST_KEPT = 20;
    private static final int VOTERS = 10;
    private static final int DECIDING_LEAD = 3;
    private static final int STEP_WORTH = 100;

    private final Names names;
    private final Rules rules;
    private final Rules trial;
    private final Requests requests;
    private final Hands hands;
    private final Rows rows;

    public TagRoot() {
        names = new Names();
        rules = new Rules();
        trial = new Rules();
        requests = new Requests();
        hands = new Hands();
        rows = new Rows();
    }

    // ---- names and things

    public int type(char character) throws IllegalArgumentException, IllegalStateException {
        if (!isNameCharacter(character)) {
            throw new IllegalArgumentException("no character of names");
        }
        if (names.draftLength >= MOST_LETTERS) {
            throw new IllegalStateException("the draft is full");
        }
        names.append(character);
        return names.draftLength;
    }

    public int enter() throws IllegalStateException {
        if (names.draftLength == 0) {
            throw new IllegalStateException("the draft is empty");
        }
        int known = names.findDraft();
        if (known == NONE && names.size >= MOST_TAGS) {
            throw new IllegalStateException("there are no more tags to be had");
        }
        int number = known;
        if (known == NONE) {
            number = names.addDraft();
            rules.grow(names.size);
        }
        names.emptyDraft();
        return number;
    }

    public int tags() {
        return names.size;
    }

    public char letter(int tag, int index) throws IndexOutOfBoundsException {
        needTag(tag);
        if (index < 0 || index >= names.lengths[tag]) {
            throw new IndexOutOfBoundsException("no such character");
        }
        return names.letterAt(tag, index);
    }

    public int addThing() throws IllegalStateException {
        if (hands.size >= MOST_THINGS) {
            throw new IllegalStateException("there are no more things to be had");
        }
        hands.size++;
        return hands.size - 1;
    }

    public int things() {
        return hands.size;
    }

    // ---- tags that are set by hand

    public boolean tag(int thing, int tag) throws IndexOutOfBoundsException {
        needThing(thing);
        needTag(tag);
        hands.startEdit();
        hands.edited[thing] |= 1 << tag;
        return finishEdit() > 0;
    }

    public boolean untag(int thing, int tag) throws IndexOutOfBoundsException {
        needThing(thing);
        needTag(tag);
        hands.startEdit();
        hands.edited[thing] &= ~(1 << tag);
        return finishEdit() > 0;
    }

    public int mass(int kind, int tag, int other) throws IndexOutOfBoundsException, IllegalArgumentException {
        needTag(tag);
        needTag(other);
        if (kind < ADD || kind > REPLACE) {
            throw new IllegalArgumentException("no such kind of edit");
        }
        int showing = rows.showing[rules.endOf(tag)];
        hands.startEdit();
        for (int thing = 0; thing < hands.size; thing++) {
            boolean isMeant = kind == REPLACE ? has(hands.sets[thing], tag) : has(showing, thing);
            if (isMeant) {
                hands.edited[thing] = massEdited(kind, hands.sets[thing], tag, other);
            }
        }
        return finishEdit();
    }

    public int undo() throws IllegalStateException {
        if (hands.keptSize == 0) {
            throw new IllegalStateException("no change is kept");
        }
        int changed = hands.restoreLatest();
        rows.refresh(rules, hands);
        return changed;
    }

    public int kept() {
        return hands.keptSize;
    }

    public int hand(int thing) throws IndexOutOfBoundsException {
        needThing(thing);
        return hands.sets[thing];
    }

    // ---- rules

    public int ask(int kind, int tag, int other)
            throws IndexOutOfBoundsException, IllegalArgumentException, IllegalStateException {
        needTag(tag);
        needTag(other);
        if (kind < ALIAS || kind > LIFT_IMPLY) {
            throw new IllegalArgumentException("no such kind of request");
        }
        if (tag == other) {
            throw new IllegalArgumentException("a rule leads to another tag");
        }
        if (requests.size >= MOST_REQUESTS) {
            throw new IllegalStateException("there are no more requests to be had");
        }
        return requests.add(kind, tag, other);
    }

    public int vote(int request, int voter, boolean isFor)
            throws IndexOutOfBoundsException, IllegalArgumentException, IllegalStateException {
        needRequest(request);
        if (voter < 0 || voter >= VOTERS) {
            throw new IllegalArgumentException("no such voter");
        }
        if (requests.states[request] != OPEN) {
            throw new IllegalStateException("the request is not open");
        }
        requests.setVote(request, voter, isFor);
        decide(request, requests.leadOf(request));
        return requests.states[request];
    }

    public int standing(int request) throws IndexOutOfBoundsException {
        needRequest(request);
        return requests.states[request];
    }

    public boolean couldPass(int request) throws IndexOutOfBoundsException {
        needRequest(request);
        return isOpenAndAllowed(request);
    }

    public int clashes(int request) throws IndexOutOfBoundsException {
        needRequest(request);
        if (!isOpenAndAllowed(request)) {
            return 0;
        }
        int found = 0;
        for (int other = 0; other < requests.size; other++) {
            if (other != request && isOpenAndAllowed(other)
                    && (!isAllowedBehind(request, other) || !isAllowedBehind(other, request))) {
                found++;
            }
        }
        return found;
    }

    public int alias(int tag) throws IndexOutOfBoundsException {
        needTag(tag);
        return rules.aliases[tag];
    }

    public int end(int tag) throws IndexOutOfBoundsException {
        needTag(tag);
        return rules.endOf(tag);
    }

    public boolean implies(int tag, int other) throws IndexOutOfBoundsException {
        needTag(tag);
        needTag(other);
        return has(rules.implied[tag], other);
    }

    // ---- what is shown

    public int shown(int thing) throws IndexOutOfBoundsException {
        needThing(thing);
        return rows.column(thing, names.size);
    }

    public int shownByHand(int thing) throws IndexOutOfBoundsException {
        needThing(thing);
        return rules.spread(hands.sets[thing]);
    }

    public int users(int tag) throws IndexOutOfBoundsException {
        needTag(tag);
        return Integer.bitCount(rows.showing[tag]);
    }

    public int reason(int thing, int tag) throws IndexOutOfBoundsException {
        needThing(thing);
        needTag(tag);
        return rules.nearest(hands.sets[thing], tag);
    }

    public int count(int all, int any, int none) throws IllegalArgumentException {
        needSets(all, any, none);
        return Integer.bitCount(matching(all, any, none));
    }

    public int match(int place, int all, int any, int none)
            throws IndexOutOfBoundsException, IllegalArgumentException {
        if (place < 0) {
            throw new IndexOutOfBoundsException("no place is below 0");
        }
        needSets(all, any, none);
        int found = memberAt(matching(all, any, none), place);
        if (found == NONE) {
            throw new IndexOutOfBoundsException("no such place");
        }
        return found;
    }

    // ---- what arguments must be

    private void needTag(int tag) {
        if (tag < 0 || tag >= names.size) {
            throw new IndexOutOfBoundsException("no such tag");
        }
    }

    private void needThing(int thing) {
        if (thing < 0 || thing >= hands.size) {
            throw new IndexOutOfBoundsException("no such thing");
        }
    }

    private void needRequest(int request) {
        if (request < 0 || request >= requests.size) {
            throw new IndexOutOfBoundsException("no such request");
        }
    }

    private void needSets(int all, int any, int none) {
        if (!isTagSet(all) || !isTagSet(any) || !isTagSet(none)) {
            throw new IllegalArgumentException("no set of tags");
        }
    }

    private boolean isTagSet(int set) {
        return set >= 0 && set < 1 << names.size;
    }

    // ---- steps of the calls above

    private int finishEdit() {
        int changed = hands.finishEdit();
        if (changed > 0) {
            rows.refresh(rules, hands);
        }
        return changed;
    }

    private void decide(int request, int lead) {
        if (lead >= DECIDING_LEAD && requests.isAllowedBy(rules, request)) {
            requests.states[request] = PASSED;
            requests.carryOut(rules, request);
            rows.refresh(rules, hands);
        } else if (Math.abs(lead) >= DECIDING_LEAD) {
            requests.states[request] = FAILED;
        }
    }

    private boolean isOpenAndAllowed(int request) {
        return requests.states[request] == OPEN && requests.isAllowedBy(rules, request);
    }

    private boolean isAllowedBehind(int first, int second) {
        trial.copyFrom(rules);
        requests.carryOut(trial, first);
        return requests.isAllowedBy(trial, second);
    }

    private int matching(int all, int any, int none) {
        int found = (1 << hands.size) - 1;
        int withAny = any == 0 ? found : 0;
        for (int tag = 0; tag < names.size; tag++) {
            int showing = rows.showing[rules.endOf(tag)];
            if (has(all, tag)) {
                found &= showing;
            }
            if (has(any, tag)) {
                withAny |= showing;
            }
            if (has(none, tag)) {
                found &= ~showing;
            }
        }
        return found & withAny;
    }

    private static int memberAt(int set, int place) {
        int before = 0;
        for (int member = 0; member < MOST_THINGS; member++) {
            if (has(set, member)) {
                if (before == place) {
                    return member;
                }
                before++;
            }
        }
        return NONE;
    }

    private static int massEdited(int kind, int set, int tag, int other) {
        switch (kind) {
            case ADD:
                return set | 1 << other;
            case TAKE:
                return set & ~(1 << other);
            default:
                return set & ~(1 << tag) | 1 << other;
        }
    }

    private static boolean has(int set, int member) {
        return (set >> member & 1) == 1;
    }

    private static boolean isNameCharacter(char character) {
        return character >= 'a' && character <= 'z' || character >= 'A' && character <= 'Z'
                || character == '-' || character == '_';
    }

    /** The names of the tags, as they were entered first, and the draft of the next one. */
    private static final class Names {
        final char[] letters = new char[MOST_TAGS * MOST_LETTERS];
        final int[] lengths = new int[MOST_TAGS];
        final char[] draft = new char[MOST_LETTERS];
        int size;
        int draftLength;

        void append(char character) {
            draft[draftLength] = character;
            draftLength++;
        }

        void emptyDraft() {
            draftLength = 0;
        }

        char letterAt(int tag, int index) {
            return letters[tag * MOST_LETTERS + index];
        }

        int findDraft() {
            for (int tag = 0; tag < size; tag++) {
                if (isDraft(tag)) {
                    return tag;
                }
            }
            return NONE;
        }

        int addDraft() {
            for (int index = 0; index < draftLength; index++) {
                letters[size * MOST_LETTERS + index] = draft[index];
            }
            lengths[size] = draftLength;
            size++;
            return size - 1;
        }

        private boolean isDraft(int tag) {
            if (lengths[tag] != draftLength) {
                return false;
            }
            for (int index = 0; index < draftLength; index++) {
                if (plain(letterAt(tag, index)) != plain(draft[index])) {
                    return false;
                }
            }
            return true;
        }

        private static char plain(char character) {
            if (character >= 'A' && character <= 'Z') {
                return (char) (character - 'A' + 'a');
            }
            return character == '-' ? '_' : character;
        }
    }

    /** The aliases and implications that stand, and what follows from them. */
    private static final class Rules {
        final int[] aliases = new int[MOST_TAGS];
        final int[] implied = new int[MOST_TAGS];
        // Of each end: the ends one implication away, and those any number away, itself among them.
        final int[] next = new int[MOST_TAGS];
        final int[] reached = new int[MOST_TAGS];
        int size;

        void grow(int newSize) {
            for (int tag = size; tag < newSize; tag++) {
                aliases[tag] = NONE;
            }
            size = newSize;
            workOut();
        }

        // What follows from the rules is left to carryOut(), which every trial goes on with.
        void copyFrom(Rules source) {
            size = source.size;
            for (int tag = 0; tag < size; tag++) {
                aliases[tag] = source.aliases[tag];
                implied[tag] = source.implied[tag];
            }
        }

        int endOf(int tag) {
            int last = tag;
            for (int step = 0; step < size; step++) {
                int further = aliases[last];
                if (further < 0 || further >= size) {
                    break;
                }
                last = further;
            }
            return last;
        }

        boolean allows(int kind, int tag, int other) {
            switch (kind) {
                case ALIAS:
                    return allowsAlias(tag, other);
                case IMPLY:
                    return !has(implied[tag], other) && !has(reached[endOf(other)], endOf(tag));
                case LIFT_ALIAS:
                    return aliases[tag] == other;
                default:
                    return has(implied[tag], other);
            }
        }

        // There is no circle so far, so one arises just if a way leads between the two that become one.
        private boolean allowsAlias(int tag, int other) {
            int end = endOf(other);
            return aliases[tag] == NONE && end != tag && !has(reached[tag], end) && !has(reached[end], tag);
        }

        void carryOut(int kind, int tag, int other) {
            switch (kind) {
                case ALIAS:
                    aliases[tag] = other;
                    break;
                case IMPLY:
                    implied[tag] |= 1 << other;
                    break;
                case LIFT_ALIAS:
                    aliases[tag] = NONE;
                    break;
                default:
                    implied[tag] &= ~(1 << other);
                    break;
            }
            workOut();
        }

        // Most tags imply nothing; leaving them out keeps the many trials of clashes() cheap.
        private void workOut() {
            for (int tag = 0; tag < size; tag++) {
                next[tag] = 0;
            }
            for (int tag = 0; tag < size; tag++) {
                if (implied[tag] != 0) {
                    next[endOf(tag)] |= endsOf(implied[tag]);
                }
            }
            for (int tag = 0; tag < size; tag++) {
                reached[tag] = next[tag] | 1 << tag;
            }
            for (int middle = 0; middle < size; middle++) {
                if (next[middle] != 0) {
                    reachOver(middle);
                }
            }
        }

        private void reachOver(int middle) {
            for (int tag = 0; tag < size; tag++) {
                if (has(reached[tag], middle)) {
                    reached[tag] |= reached[middle];
                }
            }
        }

        private int endsOf(int set) {
            int ends = 0;
            for (int tag = 0; tag < size; tag++) {
                if (has(set, tag)) {
                    ends |= 1 << endOf(tag);
                }
            }
            return ends;
        }

        int reachedFrom(int set) {
            int all = 0;
            for (int tag = 0; tag < size; tag++) {
                if (has(set, tag)) {
                    all |= reached[endOf(tag)];
                }
            }
            return all;
        }

        // Goes step by step and leaves the reached sets alone, so that it can confirm the rows made by them.
        int spread(int set) {
            int all = endsOf(set);
            for (int step = 0; step < size; step++) {
                int further = all;
                for (int tag = 0; tag < size; tag++) {
                    if (has(all, tag)) {
                        further |= next[tag];
                    }
                }
                if (further == all) {
                    break;
                }
                all = further;
            }
            return all;
        }

        // Goes backwards from the tag that is shown, so the first tag met is the nearest and the lowest.
        int nearest(int set, int tag) {
            int near = 1 << tag;
            for (int steps = 0; steps < size; steps++) {
                for (int source = 0; source < size; source++) {
                    if (has(set, source) && has(near, endOf(source))) {
                        return STEP_WORTH * steps + source;
                    }
                }
                near |= leadingTo(near);
            }
            return NONE;
        }

        private int leadingTo(int set) {
            int sources = 0;
            for (int tag = 0; tag < size; tag++) {
                if ((next[tag] & set) != 0) {
                    sources |= 1 << tag;
                }
            }
            return sources;
        }
    }

    /** What was asked for, and the votes on it. */
    private static final class Requests {
        final int[] kinds = new int[MOST_REQUESTS];
        final int[] sources = new int[MOST_REQUESTS];
        final int[] targets = new int[MOST_REQUESTS];
        final int[] states = new int[MOST_REQUESTS];
        final int[] votersFor = new int[MOST_REQUESTS];
        final int[] votersAgainst = new int[MOST_REQUESTS];
        int size;

        int add(int kind, int tag, int other) {
            kinds[size] = kind;
            sources[size] = tag;
            targets[size] = other;
            states[size] = OPEN;
            size++;
            return size - 1;
        }

        void setVote(int request, int voter, boolean isFor) {
            int one = 1 << voter;
            if (isFor) {
                votersFor[request] |= one;
                votersAgainst[request] &= ~one;
            } else {
                votersFor[request] &= ~one;
                votersAgainst[request] |= one;
            }
        }

        int leadOf(int request) {
            return Integer.bitCount(votersFor[request]) - Integer.bitCount(votersAgainst[request]);
        }

        boolean isAllowedBy(Rules rules, int request) {
            return rules.allows(kinds[request], sources[request], targets[request]);
        }

        void carryOut(Rules rules, int request) {
            rules.carryOut(kinds[request], sources[request], targets[request]);
        }
    }

    /** The sets of tags that are set by hand for the things, and the latest changes of them. */
    private static final class Hands {
        final int[] sets = new int[MOST_THINGS];
        final int[] edited = new int[MOST_THINGS];
        // A ring of changes: of each one the set of the things that it changed, and their sets ahead of it.
        final int[] changedThings = new int[MOST_KEPT];
        final int[] setsAhead = new int[MOST_KEPT * MOST_THINGS];
        int size;
        int keptSize;
        int nextSlot;

        void startEdit() {
            for (int thing = 0; thing < size; thing++) {
                edited[thing] = sets[thing];
            }
        }

        // A change of nothing must not take the place of the oldest one that is kept.
        int finishEdit() {
            int changed = 0;
            for (int thing = 0; thing < size; thing++) {
                if (edited[thing] != sets[thing]) {
                    changed |= 1 << thing;
                }
            }
            if (changed != 0) {
                keep(changed);
            }
            return Integer.bitCount(changed);
        }

        private void keep(int changed) {
            for (int thing = 0; thing < size; thing++) {
                setsAhead[nextSlot * MOST_THINGS + thing] = sets[thing];
                sets[thing] = edited[thing];
            }
            changedThings[nextSlot] = changed;
            nextSlot = nextSlot + 1 < MOST_KEPT ? nextSlot + 1 : 0;
            keptSize = Math.min(keptSize + 1, MOST_KEPT);
        }

        int restoreLatest() {
            nextSlot = nextSlot > 0 ? nextSlot - 1 : MOST_KEPT - 1;
            keptSize--;
            int changed = changedThings[nextSlot];
            for (int thing = 0; thing < size; thing++) {
                if (has(changed, thing)) {
                    sets[thing] = setsAhead[nextSlot * MOST_THINGS + thing];
                }
            }
            return Integer.bitCount(changed);
        }
    }

    /** For each tag a row of bits, one for each thing that shows it. */
    private static final class Rows {
        final int[] showing = new int[MOST_TAGS];

        void refresh(Rules rules, Hands hands) {
            for (int tag = 0; tag < rules.size; tag++) {
                showing[tag] = 0;
            }
            for (int thing = 0; thing < hands.size; thing++) {
                int all = rules.reachedFrom(hands.sets[thing]);
                for (int tag = 0; tag < rules.size; tag++) {
                    if (has(all, tag)) {
                        showing[tag] |= 1 << thing;
                    }
                }
            }
        }

        int column(int thing, int tagCount) {
            int set = 0;
            for (int tag = 0; tag < tagCount; tag++) {
                if (has(showing[tag], thing)) {
                    set |= 1 << tag;
                }
            }
            return set;
        }
    }
}
