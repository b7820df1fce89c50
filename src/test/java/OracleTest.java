import java.util.Random;

/** Long runs of calls on new objects, made from fixed seeds: each answer must be the oracle's. */
public final class OracleTest {
    private static final int RUNS = 2500;
    private static final int CALLS = 512;

    private final Random random;
    private final int run;
    private final RuleRounds tested = new RuleRounds();
    private final Oracle oracle = new Oracle();
    private final int[] widths = new int[12];
    private int relations = 0;
    private int ruleCount = 0;
    private final int values;
    private final int variables;
    private final int mostRelations;
    /** Of 100 calls so many have a wrong number. */
    private final int wrong;
    private final boolean layered;
    /** Many values and facts, so that rounds bring too much; at most two HOLDS, for the oracle's sake. */
    private final boolean wide;
    /** Facts are mostly of a value and the next one, so that much takes many rounds. */
    private final boolean chained;
    private int calls = 0;

    private OracleTest(int run) {
        this.run = run;
        random = new Random(run);
        wide = random.nextInt(6) == 0;
        values = wide ? 10 + random.nextInt(12) : 1 + random.nextInt(random.nextInt(4) == 0 ? 7 : 5);
        variables = 1 + random.nextInt(random.nextInt(4) == 0 ? 8 : 4);
        mostRelations = 1 + random.nextInt(random.nextInt(4) == 0 ? 12 : 5);
        wrong = random.nextInt(3) == 0 ? 8 : 1;
        layered = wide || random.nextInt(4) != 0;
        chained = random.nextInt(3) == 0;
    }

    public static void main(String[] args) {
        for (int run = 0; run < RUNS; run++) {
            new OracleTest(run).go();
        }
        Checks.end();
    }

    private interface Call {
        int on(boolean oracle);
    }

    private int both(String what, Call call) {
        calls++;
        String want = answer(call, true);
        String got = answer(call, false);
        Checks.due("run " + run + ", call " + calls + ": " + what, want, got);
        return want.startsWith("Ill") ? Integer.MIN_VALUE : Integer.parseInt(want);
    }

    private static String answer(Call call, boolean oracle) {
        try {
            return String.valueOf(call.on(oracle));
        } catch (RuntimeException e) {
            return e.getClass().getSimpleName();
        }
    }

    private void go() {
        if (random.nextInt(4) == 0) {
            askWithoutRelations();
        }
        int setUp = wide ? 50 : random.nextInt(30);
        for (int i = 0; i < setUp; i++) {
            build();
        }
        int length = 60 + random.nextInt(120);
        while (calls < length) {
            if (random.nextInt(100) < 30) {
                build();
            } else {
                use();
            }
        }
        both("run()", o -> o ? oracle.run() : tested.run());
        lookAtAll();
    }

    private void askWithoutRelations() {
        for (int i = 0; i < 4; i++) {
            use();
            makeAnyRule();
            both("rule()", o -> o ? oracle.rule() : tested.rule());
            callFact();
            callDrop();
        }
    }

    /** Every tuple with its round and rule, as far as the calls go. */
    private void lookAtAll() {
        both("rounds()", o -> o ? oracle.rounds() : tested.rounds());
        for (int r = 0; r < relations; r++) {
            final int relation = r;
            int size = both("count(" + r + ")", o -> o ? oracle.count(relation) : tested.count(relation));
            for (int p = 0; p < size && calls + 5 < CALLS - 20; p++) {
                for (int w = 0; w < 5; w++) {
                    callTuple(relation, p, w);
                }
            }
        }
        for (int r = 0; r < ruleCount && calls < CALLS; r++) {
            callMatches(r);
        }
    }

    private void build() {
        int what = random.nextInt(100);
        if (relations == 0 || (relations < mostRelations && what < 12) || what == 99) {
            callRelation();
        } else if (what < 55) {
            callFact();
        } else if (what < 60) {
            callDrop();
        } else {
            makeRule();
        }
    }

    private void use() {
        switch (random.nextInt(16)) {
            case 0:
            case 1:
            case 2:
            case 3:
            case 4:
                both("step()", o -> o ? oracle.step() : tested.step());
                break;
            case 5:
                both("run()", o -> o ? oracle.run() : tested.run());
                break;
            case 6:
                both("rounds()", o -> o ? oracle.rounds() : tested.rounds());
                break;
            case 7:
                both("strata()", o -> o ? oracle.strata() : tested.strata());
                break;
            case 8:
                callStratum();
                break;
            case 9:
                callCount();
                break;
            case 10:
                callHas();
                break;
            case 11:
            case 12:
                callTuple(someRelation(), off(random.nextInt(6)), off(random.nextInt(5)));
                break;
            case 13:
            case 14:
                callLike();
                break;
            default:
                callMatches(off(random.nextInt(Math.max(1, ruleCount))));
                break;
        }
    }

    private void callRelation() {
        int width = off(1 + random.nextInt(3));
        int number = both("relation(" + width + ")", o -> o ? oracle.relation(width) : tested.relation(width));
        if (number >= 0) {
            widths[number] = width;
            relations = number + 1;
        }
    }

    private void callFact() {
        int r = someRelation();
        int[] t = tuple(r);
        both("fact" + text(r, t), o -> o
                ? oracle.fact(r, t[0], t[1], t[2])
                : tested.fact(r, t[0], t[1], t[2]) ? 1 : 0);
    }

    private void callDrop() {
        int r = someRelation();
        int[] t = tuple(r);
        both("drop" + text(r, t), o -> o
                ? oracle.drop(r, t[0], t[1], t[2])
                : tested.drop(r, t[0], t[1], t[2]) ? 1 : 0);
    }

    private void callHas() {
        int r = someRelation();
        int[] t = tuple(r);
        both("has" + text(r, t), o -> o
                ? oracle.has(r, t[0], t[1], t[2])
                : tested.has(r, t[0], t[1], t[2]) ? 1 : 0);
    }

    private void callLike() {
        int r = someRelation();
        int[] t = terms(r);
        both("like" + text(r, t), o -> o ? oracle.like(r, t[0], t[1], t[2]) : tested.like(r, t[0], t[1], t[2]));
    }

    private void callTuple(int relation, int place, int what) {
        both("tuple(" + relation + ", " + place + ", " + what + ")", o -> o
                ? oracle.tuple(relation, place, what)
                : tested.tuple(relation, place, what));
    }

    private void callMatches(int rule) {
        both("matches(" + rule + ")", o -> o ? oracle.matches(rule) : tested.matches(rule));
    }

    private void callStratum() {
        int r = someRelation();
        both("stratum(" + r + ")", o -> o ? oracle.stratum(r) : tested.stratum(r));
    }

    private void callCount() {
        int r = someRelation();
        both("count(" + r + ")", o -> o ? oracle.count(r) : tested.count(r));
    }

    private void makeRule() {
        if (wide || (layered && random.nextInt(20) != 0)) {
            makeLayeredRule();
        } else {
            makeAnyRule();
        }
        int number = both("rule()", o -> o ? oracle.rule() : tested.rule());
        if (number >= 0) {
            ruleCount = number + 1;
        }
    }

    private void makeAnyRule() {
        if (random.nextInt(100) >= wrong) {
            int r = off(relations - 1 - random.nextInt(1 + relations / 2));
            callHead(r, terms(r));
        }
        int items = random.nextInt(random.nextInt(5) == 0 ? 8 : 4);
        for (int i = 0; i < items; i++) {
            int chosen = random.nextInt(100);
            int kind = off(chosen < 65 ? 0 : chosen < 80 ? 1 : chosen < 90 ? 2 : 3);
            int r = kind >= 2 ? off(0) : someRelation();
            callItem(kind, r, kind >= 2 ? new int[] {off(term()), off(term()), off(0)} : terms(r));
        }
    }

    /** A safe rule whose HOLDS are not above its head, and whose NOTs are below it: no cycle. */
    private void makeLayeredRule() {
        int top = random.nextInt(relations);
        int holds = random.nextInt(8) == 0 ? 0 : 1 + random.nextInt(wide ? 2 : 3);
        int[] known = new int[9];
        int[] froms = new int[holds];
        int[][] hold = new int[holds][];
        int count = 0;
        for (int i = 0; i < holds; i++) {
            froms[i] = random.nextInt(3) == 0 ? top : random.nextInt(top + 1);
            hold[i] = terms(froms[i]);
            for (int term : hold[i]) {
                if (term >= 64 && term < 72 && count < known.length) {
                    known[count++] = term;
                }
            }
        }
        callHead(top, termsOf(top, known, count));
        int checks = random.nextInt(3);
        for (int i = 0; i < holds; i++) {
            if (checks > 0 && random.nextBoolean()) {
                makeCheck(top, known, count);
                checks--;
            }
            callItem(0, froms[i], hold[i]);
        }
        for (; checks > 0; checks--) {
            makeCheck(top, known, count);
        }
    }

    private void makeCheck(int top, int[] known, int count) {
        int kind = 1 + random.nextInt(3);
        if (kind == 1 && top > 0) {
            int r = top - 1 - random.nextInt(top) / 2;
            callItem(1, r, termsOf(r, known, count));
        } else if (kind > 1) {
            callItem(kind, 0, new int[] {pick(known, count), pick(known, count), 0});
        }
    }

    private int[] termsOf(int relation, int[] known, int count) {
        int[] t = new int[3];
        for (int column = 0; column < width(relation); column++) {
            t[column] = pick(known, count);
        }
        return t;
    }

    private int pick(int[] known, int count) {
        return count == 0 || random.nextInt(8) == 0 ? value() : known[random.nextInt(count)];
    }

    private void callHead(int r, int[] t) {
        both("head" + text(r, t), o -> {
            if (o) {
                return oracle.head(r, t[0], t[1], t[2]);
            }
            tested.head(r, t[0], t[1], t[2]);
            return 0;
        });
    }

    private void callItem(int kind, int r, int[] t) {
        both("item of kind " + kind + text(r, t), o -> o
                ? oracle.item(kind, r, t[0], t[1], t[2])
                : tested.item(kind, r, t[0], t[1], t[2]));
    }

    private int someRelation() {
        return off(random.nextInt(Math.max(1, relations)));
    }

    private int[] tuple(int relation) {
        int[] t = new int[3];
        for (int column = 0; column < 3; column++) {
            t[column] = off(column < width(relation) ? value() : 0);
        }
        if (chained && width(relation) > 1 && random.nextInt(6) != 0) {
            t[1] = Math.min(63, t[0] + 1);
        }
        return t;
    }

    private int[] terms(int relation) {
        int[] t = new int[3];
        for (int column = 0; column < 3; column++) {
            t[column] = off(column < width(relation) ? term() : 0);
        }
        return t;
    }

    private int width(int relation) {
        return relation >= 0 && relation < relations ? widths[relation] : 2;
    }

    private int value() {
        return random.nextInt(40) == 0 ? 63 : random.nextInt(values);
    }

    private int term() {
        return random.nextInt(5) == 0 ? value() : random.nextInt(40) == 0 ? 71 : 64 + random.nextInt(variables);
    }

    /** The number, or now and then another. */
    private int off(int number) {
        if (random.nextInt(400) >= wrong) {
            return number;
        }
        int[] others = {-1, 1, 2, 3, 4, 5, 12, 24, 63, 64, 71, 72, 300, Integer.MAX_VALUE, Integer.MIN_VALUE};
        return others[random.nextInt(others.length)];
    }

    private static String text(int relation, int[] t) {
        return "(" + relation + ", " + t[0] + ", " + t[1] + ", " + t[2] + ")";
    }
}
