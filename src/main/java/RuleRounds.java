/**
 * Facts and rules: from what is given all that follows is found, round by round, strata one above the
 * other, so that what is said not to hold is known not to hold before it is used.
 */
public final class RuleRounds {
    public static final int NONE = -1;
    public static final int UNSAFE = -2;
    public static final int CYCLE = -3;
    public static final int DONE = -4;
    public static final int FULL = -5;

    private static final int VALUES = 64;
    private static final int VALUE_BITS = 6;
    private static final int VARIABLES = 8;
    private static final int TERMS = 72;
    private static final int COLUMNS = 3;

    private static final int MOST_RELATIONS = 12;
    private static final int MOST_FACTS = 200;
    private static final int MOST_TUPLES = 300;
    private static final int MOST_RULES = 24;
    private static final int MOST_ITEMS = 6;
    private static final int MOST_HOLDS = 3;
    /** Each round brings a tuple or ends a stratum, so there are never as many. */
    private static final int ROUNDS_BOUND = 1000;

    private static final int HOLDS = 0;
    private static final int NOT = 1;
    private static final int LESS = 2;
    private static final int OTHER = 3;

    private final RuleBook book;
    private final Tuples tuples;
    private final Matcher matcher;
    private final Deriving deriving;
    private int factCount;
    /** The rule in the making; null while no head is told. */
    private Rule draft;

    public RuleRounds() {
        book = new RuleBook();
        tuples = new Tuples();
        matcher = new Matcher(tuples);
        deriving = new Deriving(book, tuples, matcher);
        factCount = 0;
        draft = null;
    }

    public int relation(int columns) throws IllegalArgumentException, IllegalStateException {
        if (columns < 1 || columns > COLUMNS) {
            throw new IllegalArgumentException("a relation has 1 to 3 columns");
        }
        if (book.relationCount >= MOST_RELATIONS) {
            throw new IllegalStateException("there are 12 relations");
        }
        book.addRelation(columns);
        deriving.beginAnew();
        return book.relationCount - 1;
    }

    public boolean fact(int relation, int a, int b, int c) throws IllegalArgumentException, IllegalStateException {
        requireTuple(relation, a, b, c);
        int code = codeOf(relation, a, b, c);
        if (tuples.containsFact(code)) {
            return false;
        }
        if (factCount >= MOST_FACTS) {
            throw new IllegalStateException("there are 200 facts");
        }
        // The derived tuples go first: one of them may be the very tuple that is a fact from now on.
        deriving.beginAnew();
        tuples.insert(code, 0, NONE);
        factCount++;
        return true;
    }

    public boolean drop(int relation, int a, int b, int c) throws IllegalArgumentException {
        requireTuple(relation, a, b, c);
        int code = codeOf(relation, a, b, c);
        if (!tuples.containsFact(code)) {
            return false;
        }
        tuples.remove(code);
        factCount--;
        deriving.beginAnew();
        return true;
    }

    public void head(int relation, int a, int b, int c) throws IllegalArgumentException {
        requireTerms(relation, a, b, c);
        draft = new Rule(new Item(HOLDS, relation, book.columns[relation], a, b, c));
    }

    public int item(int kind, int relation, int a, int b, int c)
            throws IllegalArgumentException, IllegalStateException {
        if (kind < HOLDS || kind > OTHER) {
            throw new IllegalArgumentException("no such kind of item");
        }
        boolean compares = kind == LESS || kind == OTHER;
        if (compares) {
            requireComparison(relation, a, b, c);
        } else {
            requireTerms(relation, a, b, c);
        }
        if (draft == null) {
            throw new IllegalStateException("no head was told");
        }
        if (!draft.hasRoomFor(kind)) {
            throw new IllegalStateException("the rule would have too many items");
        }
        draft.add(new Item(kind, relation, compares ? 2 : book.columns[relation], a, b, c));
        return draft.itemCount();
    }

    public int rule() throws IllegalStateException {
        if (draft == null) {
            throw new IllegalStateException("no head was told");
        }
        if (book.ruleCount >= MOST_RULES) {
            throw new IllegalStateException("there are 24 rules");
        }
        if (!draft.settle()) {
            return UNSAFE;
        }
        book.addRule(draft);
        draft = null;
        deriving.beginAnew();
        return book.ruleCount - 1;
    }

    public int strata() {
        return book.strataCount;
    }

    public int stratum(int relation) throws IllegalArgumentException, IllegalStateException {
        requireRelation(relation);
        if (book.strataCount == CYCLE) {
            throw new IllegalStateException("there is a cycle");
        }
        return book.strataOf[relation];
    }

    public int step() {
        return deriving.nextRound();
    }

    public int run() {
        int came = 0;
        for (int round = 0; round < ROUNDS_BOUND && came >= 0; round++) {
            came = deriving.nextRound();
        }
        return came == DONE ? tuples.size - factCount : came;
    }

    public int rounds() {
        return deriving.roundCount;
    }

    public int count(int relation) throws IllegalArgumentException {
        requireRelation(relation);
        return sizeOf(relation);
    }

    public boolean has(int relation, int a, int b, int c) throws IllegalArgumentException {
        requireTuple(relation, a, b, c);
        return tuples.contains(codeOf(relation, a, b, c));
    }

    public int tuple(int relation, int place, int what) throws IllegalArgumentException {
        requireRelation(relation);
        if (place < 0 || place >= sizeOf(relation)) {
            throw new IllegalArgumentException("no such tuple");
        }
        int at = tuples.placeOf(codeOf(relation, 0, 0, 0)) + place;
        switch (what) {
            case 0:
            case 1:
            case 2:
                return valueAt(tuples.codes[at], what);
            case 3:
                return tuples.cameIn[at];
            case 4:
                return tuples.cameBy[at];
            default:
                throw new IllegalArgumentException("no such part of a tuple");
        }
    }

    public int like(int relation, int a, int b, int c) throws IllegalArgumentException {
        requireTerms(relation, a, b, c);
        // A tuple is like the terms just as it would make a match of a rule with this one HOLDS.
        Item pattern = new Item(HOLDS, relation, book.columns[relation], a, b, c);
        Rule question = new Rule(pattern);
        question.add(pattern);
        return question.settle() ? matcher.countMatches(question) : 0;
    }

    public int matches(int rule) throws IllegalArgumentException {
        if (rule < 0 || rule >= book.ruleCount) {
            throw new IllegalArgumentException("no such rule");
        }
        return matcher.countMatches(book.rules[rule]);
    }

    private int sizeOf(int relation) {
        return tuples.placeOf(codeOf(relation + 1, 0, 0, 0)) - tuples.placeOf(codeOf(relation, 0, 0, 0));
    }

    private void requireRelation(int relation) {
        if (relation < 0 || relation >= book.relationCount) {
            throw new IllegalArgumentException("no such relation");
        }
    }

    private void requireTuple(int relation, int a, int b, int c) {
        requireRelation(relation);
        if (!areWithin(VALUES, book.columns[relation], a, b, c)) {
            throw new IllegalArgumentException("not a tuple of the relation");
        }
    }

    private void requireTerms(int relation, int a, int b, int c) {
        requireRelation(relation);
        if (!areWithin(TERMS, book.columns[relation], a, b, c)) {
            throw new IllegalArgumentException("not terms for the relation");
        }
    }

    private static void requireComparison(int relation, int a, int b, int c) {
        if (relation != 0 || !areWithin(TERMS, 2, a, b, c)) {
            throw new IllegalArgumentException("not two terms");
        }
    }

    /** Whether the first numbers, as many as count, are below the bound, and the others 0. */
    private static boolean areWithin(int bound, int counting, int a, int b, int c) {
        return isWithin(bound, a)
                && isWithin(counting > 1 ? bound : 1, b)
                && isWithin(counting > 2 ? bound : 1, c);
    }

    private static boolean isWithin(int bound, int number) {
        return number >= 0 && number < bound;
    }

    /** One number for a tuple, in the order of relations, then a, then b, then c. */
    private static int codeOf(int relation, int a, int b, int c) {
        return ((relation * VALUES + a) * VALUES + b) * VALUES + c;
    }

    private static int valueAt(int code, int column) {
        return (code >> (VALUE_BITS * (COLUMNS - 1 - column))) & (VALUES - 1);
    }

    /** Tuples in the order of their codes, so that those of a relation, and those that begin alike, stand together. */
    private static final class Tuples {
        /** One more than may be there: a round is known to be too much when that one is found. */
        private static final int ROOM = 301;
        /** The sum of this and all its halves is not below ROOM. */
        private static final int WIDEST_STRIDE = 256;

        final int[] codes;
        final int[] cameIn;
        final int[] cameBy;
        int size;

        Tuples() {
            codes = new int[ROOM];
            cameIn = new int[ROOM];
            cameBy = new int[ROOM];
            size = 0;
        }

        /** How many tuples have a lesser code: where this one stands if it is there. */
        int placeOf(int code) {
            int place = 0;
            for (int stride = WIDEST_STRIDE; stride > 0; stride /= 2) {
                int next = place + stride;
                if (next <= size && codes[next - 1] < code) {
                    place = next;
                }
            }
            return place;
        }

        boolean contains(int code) {
            int place = placeOf(code);
            return place < size && codes[place] == code;
        }

        boolean containsFact(int code) {
            int place = placeOf(code);
            return place < size && codes[place] == code && cameIn[place] == 0;
        }

        void insert(int code, int round, int rule) {
            if (size >= ROOM) {
                return;
            }
            int place = placeOf(code);
            move(place, place + 1);
            codes[place] = code;
            cameIn[place] = round;
            cameBy[place] = rule;
            size++;
        }

        void remove(int code) {
            int place = placeOf(code);
            if (place < size && codes[place] == code) {
                move(place + 1, place);
                size--;
            }
        }

        private void move(int from, int to) {
            int length = size - from;
            System.arraycopy(codes, from, codes, to, length);
            System.arraycopy(cameIn, from, cameIn, to, length);
            System.arraycopy(cameBy, from, cameBy, to, length);
        }

        void keepFacts() {
            int kept = 0;
            for (int place = 0; place < size; place++) {
                if (cameIn[place] == 0) {
                    codes[kept] = codes[place];
                    cameIn[kept] = 0;
                    cameBy[kept] = NONE;
                    kept++;
                }
            }
            size = kept;
        }

        void copyCodes(Tuples others) {
            System.arraycopy(others.codes, 0, codes, 0, others.size);
            size = others.size;
        }
    }

    /** A head, a HOLDS, a NOT, or the two terms that a LESS or an OTHER compares. */
    private static final class Item {
        final int kind;
        final int relation;
        final int width;
        final int a;
        final int b;
        final int c;
        /** A bit for each column whose variable has no value before this item gives it one. */
        int binds;
        /** How many of the first columns have their values before a tuple is looked for. */
        int leading;
        /** From how many HOLDS on all its variables have values. */
        int ready;

        Item(int kind, int relation, int width, int a, int b, int c) {
            this.kind = kind;
            this.relation = relation;
            this.width = width;
            this.a = a;
            this.b = b;
            this.c = c;
            binds = 0;
            leading = width;
            ready = 0;
        }

        int term(int column) {
            return column == 0 ? a : column == 1 ? b : c;
        }

        boolean bindsAt(int column) {
            return ((binds >> column) & 1) != 0;
        }

        /** Whether every tuple with its leading values fits. */
        boolean isOpen() {
            for (int column = leading; column < width; column++) {
                if (!bindsAt(column)) {
                    return false;
                }
            }
            return true;
        }

        /** How many codes begin with its leading values. */
        int span() {
            return 1 << (VALUE_BITS * (COLUMNS - leading));
        }
    }

    private static final class Rule {
        final Item head;
        final Item[] holds;
        final Item[] checks;
        int holdsCount;
        int checkCount;
        /** For each variable how many HOLDS it takes, in their order, until it has a value; 0 if none gives one. */
        private final int[] knownFrom;

        Rule(Item head) {
            this.head = head;
            holds = new Item[MOST_HOLDS];
            checks = new Item[MOST_ITEMS];
            holdsCount = 0;
            checkCount = 0;
            knownFrom = new int[VARIABLES];
        }

        int itemCount() {
            return holdsCount + checkCount;
        }

        boolean hasRoomFor(int kind) {
            return itemCount() < MOST_ITEMS && (kind != HOLDS || holdsCount < MOST_HOLDS);
        }

        void add(Item item) {
            if (!hasRoomFor(item.kind)) {
                return;
            }
            if (item.kind != HOLDS) {
                checks[checkCount] = item;
                checkCount++;
                return;
            }
            holds[holdsCount] = item;
            holdsCount++;
            bindVariables(item);
        }

        private void bindVariables(Item item) {
            for (int column = item.width - 1; column >= 0; column--) {
                int variable = item.term(column) - VALUES;
                if (variable >= 0 && knownFrom[variable] == 0 && isFirstUse(item, column)) {
                    item.binds |= 1 << column;
                    item.leading = column;
                }
            }
            for (int column = 0; column < item.width; column++) {
                if (item.bindsAt(column)) {
                    knownFrom[item.term(column) - VALUES] = holdsCount;
                }
            }
        }

        private static boolean isFirstUse(Item item, int column) {
            for (int before = 0; before < column; before++) {
                if (item.term(before) == item.term(column)) {
                    return false;
                }
            }
            return true;
        }

        /** Finds how soon the head and each check can be looked at: whether all can, so that the rule is safe. */
        boolean settle() {
            head.ready = readyOf(head);
            boolean safe = head.ready >= 0;
            for (int i = 0; i < checkCount; i++) {
                checks[i].ready = readyOf(checks[i]);
                safe = safe && checks[i].ready >= 0;
            }
            return safe;
        }

        private int readyOf(Item item) {
            int ready = 0;
            for (int column = 0; column < item.width; column++) {
                int variable = item.term(column) - VALUES;
                if (variable >= 0) {
                    if (knownFrom[variable] == 0) {
                        return NONE;
                    }
                    ready = Math.max(ready, knownFrom[variable]);
                }
            }
            return ready;
        }
    }

    /** The relations and the rules, and the strata that follow from them. */
    private static final class RuleBook {
        final int[] columns;
        final Rule[] rules;
        final int[] strataOf;
        int relationCount;
        int ruleCount;
        /** How many strata there are, or CYCLE. */
        int strataCount;

        RuleBook() {
            columns = new int[MOST_RELATIONS];
            rules = new Rule[MOST_RULES];
            strataOf = new int[MOST_RELATIONS];
            relationCount = 0;
            ruleCount = 0;
            strataCount = 0;
        }

        void addRelation(int width) {
            if (relationCount < MOST_RELATIONS) {
                columns[relationCount] = width;
                relationCount++;
                findStrata();
            }
        }

        void addRule(Rule rule) {
            if (ruleCount < MOST_RULES) {
                rules[ruleCount] = rule;
                ruleCount++;
                findStrata();
            }
        }

        /**
         * Without a cycle a chain of rules that raise one another passes each relation once at most: the
         * last of as many passes as there are relations then finds nothing to raise.
         */
        private void findStrata() {
            for (int relation = 0; relation < relationCount; relation++) {
                strataOf[relation] = 0;
            }
            boolean raised = relationCount > 0;
            for (int pass = 0; pass < relationCount && raised; pass++) {
                raised = raiseHeads();
            }
            strataCount = raised ? CYCLE : greatestStratum() + 1;
        }

        private boolean raiseHeads() {
            boolean raised = false;
            for (int number = 0; number < ruleCount; number++) {
                int relation = rules[number].head.relation;
                int least = leastStratum(rules[number]);
                if (strataOf[relation] < least) {
                    strataOf[relation] = least;
                    raised = true;
                }
            }
            return raised;
        }

        private int leastStratum(Rule rule) {
            int least = 0;
            for (int i = 0; i < rule.holdsCount; i++) {
                least = Math.max(least, strataOf[rule.holds[i].relation]);
            }
            for (int i = 0; i < rule.checkCount; i++) {
                if (rule.checks[i].kind == NOT) {
                    least = Math.max(least, strataOf[rule.checks[i].relation] + 1);
                }
            }
            return least;
        }

        /** NONE without relations. */
        private int greatestStratum() {
            int greatest = NONE;
            for (int relation = 0; relation < relationCount; relation++) {
                greatest = Math.max(greatest, strataOf[relation]);
            }
            return greatest;
        }
    }

    /**
     * Gives the variables of a rule values, one HOLDS after the other. A value is never taken away: the
     * HOLDS that gives it gives the next one before anything reads it again.
     */
    private static final class Matcher {
        private final Tuples tuples;
        private final int[] values;

        Matcher(Tuples tuples) {
            this.tuples = tuples;
            values = new int[VARIABLES];
        }

        private int valueOf(int term) {
            return term < VALUES ? term : values[term - VALUES];
        }

        /** The code of the item's tuple; the least one that it may have if some of its values are not known yet. */
        int codeOf(Item item) {
            int code = item.relation;
            for (int column = 0; column < COLUMNS; column++) {
                code = code * VALUES + (column < item.leading ? valueOf(item.term(column)) : 0);
            }
            return code;
        }

        /** Whether a tuple that has the item's leading values fits it all over; its variables have values then. */
        boolean fits(Item item, int code) {
            for (int column = item.leading; column < item.width; column++) {
                int term = item.term(column);
                int value = valueAt(code, column);
                if (item.bindsAt(column)) {
                    values[term - VALUES] = value;
                } else if (valueOf(term) != value) {
                    return false;
                }
            }
            return true;
        }

        /** Whether those checks hold that can be looked at from this depth on, and not before. */
        boolean checksHold(Rule rule, int depth) {
            for (int i = 0; i < rule.checkCount; i++) {
                Item check = rule.checks[i];
                if (check.ready == depth) {
                    boolean holds = check.kind == NOT ? !tuples.contains(codeOf(check)) : comparisonHolds(check);
                    if (!holds) {
                        return false;
                    }
                }
            }
            return true;
        }

        private boolean comparisonHolds(Item check) {
            int a = valueOf(check.a);
            int b = valueOf(check.b);
            return check.kind == LESS ? a < b : a != b;
        }

        int countMatches(Rule rule) {
            return countFrom(rule, 0);
        }

        /** How many matches the rule has with the values that its first HOLDS, as many as the depth, have given. */
        private int countFrom(Rule rule, int depth) {
            if (!checksHold(rule, depth)) {
                return 0;
            }
            if (depth >= rule.holdsCount) {
                return 1;
            }
            Item item = rule.holds[depth];
            int least = codeOf(item);
            int end = least + item.span();
            int first = tuples.placeOf(least);
            if (isOpenEnd(rule, depth)) {
                return tuples.placeOf(end) - first;
            }
            int found = 0;
            for (int at = first; at < tuples.size && tuples.codes[at] < end; at++) {
                if (fits(item, tuples.codes[at])) {
                    found += countFrom(rule, depth + 1);
                }
            }
            return found;
        }

        /** Whether all the last HOLDS finds are matches, so that three large ones need not be gone through. */
        private static boolean isOpenEnd(Rule rule, int depth) {
            if (depth + 1 < rule.holdsCount || !rule.holds[depth].isOpen()) {
                return false;
            }
            for (int i = 0; i < rule.checkCount; i++) {
                if (rule.checks[i].ready == rule.holdsCount) {
                    return false;
                }
            }
            return true;
        }
    }

    /** Goes on by rounds, from stratum 0 up. */
    private static final class Deriving {
        private final RuleBook book;
        private final Tuples tuples;
        private final Matcher matcher;
        /** What came in the round before this one. */
        private final Tuples latest;
        /** What comes in the round at hand: kept apart, as a round goes by what was there before it. */
        private final Tuples coming;
        private int stratumAtHand;
        private boolean stratumIsNew;
        int roundCount;

        Deriving(RuleBook book, Tuples tuples, Matcher matcher) {
            this.book = book;
            this.tuples = tuples;
            this.matcher = matcher;
            latest = new Tuples();
            coming = new Tuples();
            stratumAtHand = 0;
            stratumIsNew = true;
            roundCount = 0;
        }

        void beginAnew() {
            tuples.keepFacts();
            stratumAtHand = 0;
            stratumIsNew = true;
            roundCount = 0;
        }

        /** How many tuples came, CYCLE, DONE or FULL. */
        int nextRound() {
            if (book.strataCount == CYCLE) {
                return CYCLE;
            }
            if (stratumAtHand >= book.strataCount) {
                return DONE;
            }
            coming.size = 0;
            for (int number = 0; number < book.ruleCount && !isTooMuch(); number++) {
                if (book.strataOf[book.rules[number].head.relation] == stratumAtHand) {
                    deriveBy(number);
                }
            }
            if (isTooMuch()) {
                return FULL;
            }
            closeRound();
            return coming.size;
        }

        private boolean isTooMuch() {
            return tuples.size + coming.size > MOST_TUPLES;
        }

        private void closeRound() {
            roundCount++;
            for (int i = 0; i < coming.size; i++) {
                tuples.insert(coming.codes[i], roundCount, coming.cameBy[i]);
            }
            latest.copyCodes(coming);
            stratumIsNew = coming.size == 0;
            if (stratumIsNew) {
                stratumAtHand++;
            }
        }

        /**
         * In a stratum's later rounds a match without one of the latest tuples is an old one: what its NOTs
         * look at is below the stratum and rests. So one HOLDS after the other is held to the latest tuples.
         */
        private void deriveBy(int number) {
            if (stratumIsNew) {
                deriveFrom(number, 0, NONE);
                return;
            }
            for (int pivot = 0; pivot < book.rules[number].holdsCount; pivot++) {
                deriveFrom(number, 0, pivot);
            }
        }

        /**
         * Whether the head's tuple is known to be there or to come. Once the head has its values one match is
         * enough, and none is needed if the tuple is known.
         */
        private boolean deriveFrom(int number, int depth, int pivot) {
            Rule rule = book.rules[number];
            if (depth == rule.head.ready && isKnown(matcher.codeOf(rule.head))) {
                return true;
            }
            if (!matcher.checksHold(rule, depth)) {
                return false;
            }
            if (depth >= rule.holdsCount) {
                coming.insert(matcher.codeOf(rule.head), 0, number);
                return true;
            }
            Item item = rule.holds[depth];
            Tuples source = depth == pivot ? latest : tuples;
            int least = matcher.codeOf(item);
            int end = least + item.span();
            for (int at = source.placeOf(least); at < source.size && source.codes[at] < end; at++) {
                if (matcher.fits(item, source.codes[at])) {
                    boolean known = deriveFrom(number, depth + 1, pivot);
                    if ((known && depth >= rule.head.ready) || isTooMuch()) {
                        return known;
                    }
                }
            }
            return false;
        }

        private boolean isKnown(int code) {
            return tuples.contains(code) || coming.contains(code);
        }
    }
}
