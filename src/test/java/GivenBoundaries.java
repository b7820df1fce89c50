/** Promises 1 to 4, what is given: a method for each sentence that names a boundary. */
final class GivenBoundaries {
    private static final int HOLDS = Made.HOLDS;
    private static final int NOT = Made.NOT;
    private static final int LESS = Made.LESS;
    private static final int OTHER = Made.OTHER;

    private static final String NEW = "Promise 1: A new object";
    private static final String RELATION = "Promise 2: relation";
    private static final String FACT = "Promise 3: fact";
    private static final String DROP = "Promise 4: drop";

    private GivenBoundaries() {
    }

    static void all() {
        Sentence.holds(NEW, "No relations,", GivenBoundaries::noRelations);
        Sentence.holds(NEW, "no rules.", GivenBoundaries::noRules);
        Sentence.holds(RELATION, "A relation with so many columns: its number, from 0 on.",
                GivenBoundaries::relationNumbers);
        Sentence.holds(RELATION, "Illegal argument: columns are not 1 .. 3;", GivenBoundaries::columnsAre1To3);
        Sentence.holds(RELATION, "illegal state: there are 12.", GivenBoundaries::thereAre12);
        Sentence.holds(FACT, "A fact is given: whether it is new among facts.", GivenBoundaries::newAmongFacts);
        Sentence.holds(FACT, "Illegal argument;", GivenBoundaries::factIllegalArgument);
        Sentence.holds(FACT, "illegal state: it is new,", GivenBoundaries::onlyNewOnesAreRefused);
        Sentence.holds(FACT, "and there are 200 facts.", GivenBoundaries::thereAre200Facts);
        Sentence.holds(DROP, "A fact is taken back: whether it was one.", GivenBoundaries::whetherItWasOne);
        Sentence.holds(DROP, "Illegal argument.", GivenBoundaries::dropIllegalArgument);
    }

    // ---- 1 and 2 --------------------------------------------------------------------------------------

    private static void noRelations() {
        Made.relations(1, 2, 3);
        RuleRounds x = new RuleRounds();
        Checks.due("strata", 0, x.strata());
        Checks.due("step", RuleRounds.DONE, x.step());
        Checks.due("run", 0, x.run());
        Checks.due("rounds", 0, x.rounds());
        Checks.argument("fact", () -> x.fact(0, 0, 0, 0));
        Checks.argument("drop", () -> x.drop(0, 0, 0, 0));
        Checks.argument("head", () -> x.head(0, 0, 0, 0));
        Checks.argument("HOLDS", () -> x.item(HOLDS, 0, 0, 0, 0));
        Checks.argument("NOT", () -> x.item(NOT, 0, 0, 0, 0));
        Checks.argument("stratum", () -> x.stratum(0));
        Checks.argument("count", () -> x.count(0));
        Checks.argument("has", () -> x.has(0, 0, 0, 0));
        Checks.argument("tuple", () -> x.tuple(0, 0, 0));
        Checks.argument("like", () -> x.like(0, 0, 0, 0));
        Checks.due("the first relation", 0, x.relation(1));
        Checks.due("is empty", 0, x.count(0));
    }

    private static void noRules() {
        Made.always(Made.relations(1), 0, 0);
        RuleRounds x = new RuleRounds();
        Checks.argument("matches", () -> x.matches(0));
        Checks.state("no rule in the making, rule", () -> x.rule());
        Checks.state("no rule in the making, LESS", () -> x.item(LESS, 0, 0, 1, 0));
        Checks.state("no rule in the making, OTHER", () -> x.item(OTHER, 0, 0, 1, 0));
        x.relation(1);
        Checks.argument("matches with a relation", () -> x.matches(0));
        Checks.due("nothing follows", 0, x.run());
        x.head(0, 0, 0, 0);
        Checks.due("the first rule", 0, x.rule());
    }

    private static void relationNumbers() {
        RuleRounds x = new RuleRounds();
        for (int i = 0; i < 12; i++) {
            final int number = i;
            int columns = 3 - number % 3;
            int b = columns > 1 ? 63 : 0;
            int c = columns > 2 ? 63 : 0;
            Checks.due("number", number, x.relation(columns));
            Checks.due("it is empty", 0, x.count(number));
            Checks.due("it takes its columns", true, x.fact(number, 63, b, c));
            if (columns < 3) {
                Checks.argument("and no third one", () -> x.fact(number, 63, b, 1));
            }
            if (columns < 2) {
                Checks.argument("nor a second one", () -> x.fact(number, 63, 1, 0));
            }
        }
        Checks.due("the first has its fact still", true, x.has(0, 63, 63, 63));
        Checks.due("the last has one column", true, x.has(11, 63, 0, 0));
    }

    private static void columnsAre1To3() {
        for (int columns : new int[] {0, 4, 5, -1, -3, 12, 64, Integer.MIN_VALUE, Integer.MAX_VALUE}) {
            Refused.argument(columns + " columns", RuleRounds::new, x -> x.relation(columns));
            Refused.argument(columns + " columns when there are some", () -> Made.relations(1, 2),
                    x -> x.relation(columns));
        }
        for (int columns = 1; columns <= 3; columns++) {
            Checks.due(columns + " columns", 0, new RuleRounds().relation(columns));
        }
    }

    private static void thereAre12() {
        for (int columns = 1; columns <= 3; columns++) {
            final int width = columns;
            RuleRounds eleven = Made.relations(1, 1, 1, 1, 1, 1, 1, 1, 1, 1, 1);
            Checks.due("the twelfth", 11, eleven.relation(width));
            Checks.due("it is one", 0, eleven.count(11));
            Refused.state("the thirteenth of " + width, GivenBoundaries::twelveRelations, x -> x.relation(width));
        }
        RuleRounds x = twelveRelations();
        Checks.state("the thirteenth", () -> x.relation(1));
        Checks.argument("it is none", () -> x.count(12));
        Checks.due("the derived tuple stays", 1, x.count(11));
        Checks.due("rounds stay", 2, x.rounds());
        Checks.state("again", () -> x.relation(1));
    }

    private static RuleRounds twelveRelations() {
        RuleRounds x = Made.relations(1, 1, 1, 1, 1, 1, 1, 1, 1, 1, 1, 1);
        x.fact(0, 5, 0, 0);
        Made.copy(x, 11, 0);
        x.run();
        return x;
    }

    // ---- 3 and 4 --------------------------------------------------------------------------------------

    private static void newAmongFacts() {
        RuleRounds x = Made.relations(2, 2, 2);
        Checks.due("the first", true, x.fact(1, 0, 0, 0));
        Checks.due("again", false, x.fact(1, 0, 0, 0));
        Checks.due("in the relation before", true, x.fact(0, 0, 0, 0));
        Checks.due("in the relation behind", true, x.fact(2, 0, 0, 0));
        Checks.due("the greatest", true, x.fact(0, 63, 63, 0));
        Checks.due("the greatest again", false, x.fact(0, 63, 63, 0));
        Checks.due("dropped", true, x.drop(1, 0, 0, 0));
        Checks.due("is new again", true, x.fact(1, 0, 0, 0));
        Checks.due("they are there", 4, x.count(0) + x.count(1) + x.count(2));
        Made.copyPairs(x, 2, 0);
        Checks.due("one is derived", 1, x.run());
        Checks.due("it is new among facts", true, x.fact(2, 63, 63, 0));
        Checks.due("once", false, x.fact(2, 63, 63, 0));
        Checks.due("it is there once", 2, x.count(2));
        for (int i = 0; i <= 6; i++) {
            final int steps = i;
            Tour.staysBehind("a fact that is not new, behind " + steps + " steps", () -> steps(steps),
                    y -> Checks.due("given again", false, y.fact(0, 1, 2, 0)));
            Tour.staysBehind("one of a cycle, behind " + steps + " steps", () -> cycleBehind(steps),
                    y -> Checks.due("given again", false, y.fact(0, 1, 2, 0)));
        }
        Tour.staysBehind("one of 200, when all is full", GivenBoundaries::full,
                y -> Checks.due("given again", false, y.fact(0, 0, 0, 0)));
    }

    /** A chain of 4 and its closure, two strata, so many rounds behind their beginning. */
    private static RuleRounds steps(int count) {
        RuleRounds x = Made.relations(2, 2, 2);
        Made.chain(x, 0, 4);
        Made.closure(x, 0, 1);
        x.head(2, Made.X, Made.X, 0);
        x.item(HOLDS, 0, Made.X, Made.Y, 0);
        x.item(NOT, 1, Made.Y, Made.X, 0);
        x.rule();
        for (int i = 0; i < count; i++) {
            x.step();
        }
        return x;
    }

    private static RuleRounds cycleBehind(int steps) {
        RuleRounds x = steps(steps);
        x.head(0, 63, 63, 0);
        x.item(NOT, 2, 63, 63, 0);
        x.rule();
        return x;
    }

    /** 200 facts, 100 derived tuples, and one more that would come. */
    private static RuleRounds full() {
        RuleRounds x = given(200);
        for (int row = 0; row < 3; row++) {
            x.head(1, row, Made.X, 0);
            x.item(HOLDS, 0, 0, Made.X, 0);
            x.item(LESS, 0, Made.X, 33, 0);
            x.rule();
        }
        x.head(1, 62, 62, 0);
        x.item(HOLDS, 1, 63, 63, 0);
        x.rule();
        Checks.due("300 are there", 100, x.step());
        Checks.due("full", RuleRounds.FULL, x.step());
        return x;
    }

    private static void factIllegalArgument() {
        for (int relation : Numbers.none(2)) {
            Refused.argument("relation " + relation, GivenBoundaries::oneIsDerived, x -> x.fact(relation, 1, 0, 0));
        }
        for (int number : Numbers.NO_VALUES) {
            Refused.argument("a is " + number, GivenBoundaries::oneIsDerived, x -> x.fact(0, number, 0, 0));
        }
        for (int number : Numbers.NOT_ZERO) {
            Refused.argument("b is " + number, GivenBoundaries::oneIsDerived, x -> x.fact(0, 1, number, 0));
            Refused.argument("c is " + number, GivenBoundaries::oneIsDerived, x -> x.fact(0, 1, 0, number));
        }
    }

    /** Fact 5 of relation 0, derived for relation 1. */
    private static RuleRounds oneIsDerived() {
        RuleRounds x = Made.relations(1, 1);
        x.fact(0, 5, 0, 0);
        Made.copy(x, 1, 0);
        x.run();
        return x;
    }

    /** So many facts (0, 0), (0, 1), .. of relation 0, and (63, 63) of relation 1, derived. */
    private static RuleRounds given(int facts) {
        RuleRounds x = Made.relations(2, 2);
        Made.pairs(x, 0, facts);
        x.head(1, 63, 63, 0);
        x.rule();
        x.run();
        return x;
    }

    private static void onlyNewOnesAreRefused() {
        RuleRounds x = given(200);
        Checks.due("the first of 200 again", false, x.fact(0, 0, 0, 0));
        Checks.due("the last of 200 again", false, x.fact(0, 199 / 64, 199 % 64, 0));
        Checks.due("derived tuples stay", 1, x.count(1));
        Checks.state("a derived tuple is new among facts", () -> x.fact(1, 63, 63, 0));
        Checks.due("it stays derived", 1, x.tuple(1, 0, 3));
        Refused.state("a derived tuple", () -> given(200), y -> y.fact(1, 63, 63, 0));
    }

    private static void thereAre200Facts() {
        RuleRounds x = given(199);
        Checks.due("fact 200, with a derived tuple beside", true, x.fact(1, 0, 0, 0));
        Checks.state("fact 201", () -> x.fact(1, 0, 1, 0));
        Checks.due("fact 201 is not there", false, x.has(1, 0, 1, 0));
        Checks.due("200 are", 200, x.count(0) + x.count(1));
        Checks.due("a drop of none", false, x.drop(1, 0, 1, 0));
        Checks.state("makes no room", () -> x.fact(1, 0, 1, 0));
        Checks.due("a drop of one", true, x.drop(0, 0, 0, 0));
        Checks.due("makes room", true, x.fact(1, 0, 1, 0));
        Checks.state("for one", () -> x.fact(0, 0, 0, 0));
        Refused.state("fact 201 in the same relation", () -> given(200), y -> y.fact(0, 63, 0, 0));
        Refused.state("fact 201 in another", () -> given(200), y -> y.fact(1, 0, 0, 0));
    }

    private static void whetherItWasOne() {
        RuleRounds x = oneIsDerived();
        Checks.due("what was never there", false, x.drop(0, 0, 0, 0));
        Checks.due("beside one", false, x.drop(0, 4, 0, 0));
        Checks.due("on the other side", false, x.drop(0, 6, 0, 0));
        Checks.due("a derived tuple", false, x.drop(1, 5, 0, 0));
        Checks.due("it stays", true, x.has(1, 5, 0, 0));
        Checks.due("a fact", true, x.drop(0, 5, 0, 0));
        Checks.due("it is gone", false, x.has(0, 5, 0, 0));
        Checks.due("again", false, x.drop(0, 5, 0, 0));
        Checks.due("nothing follows", 0, x.run());
        RuleRounds empty = Made.relations(3);
        Checks.due("the least of none", false, empty.drop(0, 0, 0, 0));
        Checks.due("the greatest of none", false, empty.drop(0, 63, 63, 63));
        RuleRounds all = Made.relations(2);
        Made.pairs(all, 0, 200);
        for (int i = 199; i >= 0; i--) {
            Checks.due("fact " + i, true, all.drop(0, i / 64, i % 64, 0));
        }
        Checks.due("none is left", 0, all.count(0));
        Checks.due("none to drop", false, all.drop(0, 0, 0, 0));
        for (int i = 0; i <= 6; i++) {
            dropOfNone("behind " + i + " steps", steps(i), steps(i));
            dropOfNone("of a cycle, behind " + i + " steps", cycleBehind(i), cycleBehind(i));
        }
        dropOfNone("when all is full", full(), full());
    }

    private static void dropOfNone(String what, RuleRounds asked, RuleRounds never) {
        Checks.due("what is not there", false, asked.drop(0, 63, 62, 0));
        Checks.due("a tuple that is derived, or may be", false, asked.drop(1, 63, 63, 0));
        Checks.due("another one", false, asked.drop(1, 0, 4, 0));
        Checks.due("a drop of none " + what + " leaves", Tour.of(never), Tour.of(asked));
    }

    private static void dropIllegalArgument() {
        for (int relation : Numbers.none(2)) {
            Refused.argument("relation " + relation, GivenBoundaries::oneIsDerived, x -> x.drop(relation, 5, 0, 0));
        }
        for (int number : Numbers.NO_VALUES) {
            Refused.argument("a is " + number, GivenBoundaries::oneIsDerived, x -> x.drop(0, number, 0, 0));
        }
        for (int number : Numbers.NOT_ZERO) {
            Refused.argument("b is " + number, GivenBoundaries::oneIsDerived, x -> x.drop(0, 5, number, 0));
            Refused.argument("c is " + number, GivenBoundaries::oneIsDerived, x -> x.drop(0, 5, 0, number));
        }
    }
}
