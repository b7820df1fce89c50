/** The terms of values, relations and rules, and what is said of all calls: a method for each sentence. */
final class TermsBoundaries {
    private static final int HOLDS = Made.HOLDS;
    private static final int NOT = Made.NOT;
    private static final int LESS = Made.LESS;
    private static final int OTHER = Made.OTHER;
    private static final int X = Made.X;
    private static final int Y = Made.Y;
    private static final int LAST = Made.LAST;

    private TermsBoundaries() {
    }

    static void all() {
        Sentence.namesNoBoundary("What it is", "Facts and rules: from what is given all that follows is found, "
                + "round by round, strata one above the other, so that what is said not to hold is known not to hold "
                + "before it is used.");
        Sentence.holds("What it is", "An object is used for at most 512 calls after it has been made; "
                + "what later calls answer is free.", TermsBoundaries::call512IsAnswered);
        holds("VALUES are 0 .. 63.", TermsBoundaries::valuesAre0To63);
        holds("A RELATION has 1 .. 3 COLUMNS and TUPLES of as many values;",
                TermsBoundaries::tuplesHaveAsManyValues);
        holds("of these three numbers a, b, c the first ones count, others must be 0.",
                TermsBoundaries::othersMustBe0);
        holds("FACTS are tuples that are given; others are DERIVED.", TermsBoundaries::othersAreDerived);
        holds("A TERM is a value, or 64 .. 71, a VARIABLE.", TermsBoundaries::variablesAre64To71);
        holds("A RULE has a HEAD, a relation and a term for each of its columns, and ITEMS, at most 6, of these "
                + "kinds: 0 HOLDS and 1 NOT: a relation and a term for each column; 2 LESS and 3 OTHER: two terms "
                + "(a and b).", TermsBoundaries::itemsAtMost6);
        holds("At most 3 of its items are HOLDS.", TermsBoundaries::atMost3AreHolds);
        holds("It is SAFE if each variable in it is in a HOLDS of it.", TermsBoundaries::safeIfInAHolds);
        holds("A MATCH of a rule gives its variables values so that the tuple of each HOLDS is there,",
                TermsBoundaries::eachHoldsIsThere);
        holds("that of each NOT is not,", TermsBoundaries::eachNotIsNot);
        holds("that of each LESS has a below b,", TermsBoundaries::eachLessHasABelowB);
        holds("and that of each OTHER a and b that differ.", TermsBoundaries::eachOtherDiffers);
        holds("Its head's tuple FOLLOWS then.", TermsBoundaries::headFollows);
        holds("In all calls illegal argument: a number is out of its bounds,", TermsBoundaries::outOfBounds);
        holds("there is no such relation, tuple, rule.", TermsBoundaries::noSuchOne);
        holds("Of several exceptions the one named first is thrown;", TermsBoundaries::firstNamedIsThrown);
        holds("a call that throws changes nothing.", TermsBoundaries::throwingChangesNothing);
        holds("The constants: `NONE = -1`, `UNSAFE = -2`, `CYCLE = -3`, `DONE = -4`, `FULL = -5`: There is none.",
                TermsBoundaries::constants);
    }

    private static void holds(String words, Runnable test) {
        Sentence.holds("Terms", words, test);
    }

    private static void call512IsAnswered() {
        RuleRounds x = Made.relations(2, 2);
        Made.chain(x, 0, 20);
        Made.closure(x, 0, 1);
        Checks.due("call 30, run", 210, x.run());
        for (int call = 31; call <= 507; call++) {
            int at = call % 20;
            Checks.due("call " + call + ", has", true, x.has(1, at, at + 1, 0));
        }
        Checks.due("call 508, drop", true, x.drop(0, 19, 20, 0));
        Checks.due("call 509, step", 19, x.step());
        Checks.due("call 510, run", 190, x.run());
        Checks.due("call 511, rounds", 20, x.rounds());
        Checks.due("call 512, tuple", 1, x.tuple(1, 189, 3));
    }

    // ---- values, relations, terms ---------------------------------------------------------------------

    private static void valuesAre0To63() {
        for (int column = 0; column < 3; column++) {
            for (int value = 0; value <= 63; value += 63) {
                int[] t = Numbers.but(column, value, 7);
                RuleRounds x = Made.relations(3);
                Checks.due("fact, " + value, true, x.fact(0, t[0], t[1], t[2]));
                Checks.due("has, " + value, true, x.has(0, t[0], t[1], t[2]));
                Checks.due("tuple, " + value, value, x.tuple(0, 0, column));
                Checks.due("drop, " + value, true, x.drop(0, t[0], t[1], t[2]));
            }
            for (int number : Numbers.NO_VALUES) {
                int[] t = Numbers.but(column, number, 7);
                String what = number + " in column " + column;
                Refused.argument("fact, " + what, TermsBoundaries::sevens, x -> x.fact(0, t[0], t[1], t[2]));
                Refused.argument("has, " + what, TermsBoundaries::sevens, x -> x.has(0, t[0], t[1], t[2]));
                Refused.argument("drop, " + what, TermsBoundaries::sevens, x -> x.drop(0, t[0], t[1], t[2]));
            }
        }
    }

    /** (7, 7, 7), and tuples that a number out of bounds would meet if it went over into the column before. */
    private static RuleRounds sevens() {
        RuleRounds x = Made.relations(3, 3);
        x.fact(0, 7, 7, 7);
        x.fact(0, 7, 8, 0);
        x.fact(0, 7, 6, 63);
        x.fact(0, 8, 0, 7);
        x.fact(0, 6, 63, 7);
        x.fact(1, 0, 7, 7);
        return x;
    }

    private static void tuplesHaveAsManyValues() {
        for (int columns = 1; columns <= 3; columns++) {
            RuleRounds x = Made.relations(columns);
            int last = columns - 1;
            for (int value = 0; value <= 63; value++) {
                int[] t = {0, 0, 0};
                t[last] = value;
                Checks.due("new by its last column", true, x.fact(0, t[0], t[1], t[2]));
            }
            Checks.due("all of them", 64, x.count(0));
            Checks.due("the last column of the last one", 63, x.tuple(0, 63, last));
        }
        Refused.argument("0 columns", RuleRounds::new, x -> x.relation(0));
        Refused.argument("4 columns", RuleRounds::new, x -> x.relation(4));
    }

    private static void othersMustBe0() {
        for (int columns = 1; columns <= 2; columns++) {
            final int width = columns;
            for (int column = columns; column < 3; column++) {
                for (int number : Numbers.NOT_ZERO) {
                    int[] t = {0, 0, 0};
                    t[column] = number;
                    String what = number + " in column " + column + " of " + width;
                    Refused.argument("fact, " + what, () -> zeros(width), x -> x.fact(1, t[0], t[1], t[2]));
                    Refused.argument("has, " + what, () -> zeros(width), x -> x.has(1, t[0], t[1], t[2]));
                    Refused.argument("drop, " + what, () -> zeros(width), x -> x.drop(1, t[0], t[1], t[2]));
                }
            }
        }
    }

    private static RuleRounds zeros(int columns) {
        RuleRounds x = Made.relations(3, columns, 3);
        x.fact(0, 63, 63, 63);
        x.fact(1, 0, 0, 0);
        x.fact(2, 0, 0, 1);
        return x;
    }

    private static void othersAreDerived() {
        RuleRounds x = Made.relations(1, 1);
        Made.copy(x, 1, 0);
        x.fact(0, 5, 0, 0);
        x.fact(1, 6, 0, 0);
        Checks.due("derived are", 1, x.run());
        Checks.due("round of the derived one", 1, x.tuple(1, 0, 3));
        Checks.due("round of the fact", 0, x.tuple(1, 1, 3));
        x.fact(1, 5, 0, 0);
        Checks.due("derived are, when what follows is given", 0, x.run());
        Checks.due("round of what is given and follows", 0, x.tuple(1, 0, 3));
        Checks.due("it is there once", 2, x.count(1));
    }

    private static void variablesAre64To71() {
        for (int variable = 64; variable <= 71; variable++) {
            RuleRounds x = Made.relations(1, 1);
            Made.singles(x, 0, 3);
            x.head(1, variable, 0, 0);
            x.item(HOLDS, 0, variable, 0, 0);
            x.item(NOT, 1, variable, 0, 0);
            x.item(OTHER, 0, variable, 2, 0);
            x.item(LESS, 0, 0, variable, 0);
            Checks.due("a rule of " + variable, 0, x.rule());
            Checks.due("matches of a rule of " + variable, 1, x.matches(0));
            Checks.due("like " + variable, 3, x.like(0, variable, 0, 0));
        }
        eightAreAllDifferent();
        for (int number : new int[] {-1, 72}) {
            Refused.argument("head, " + number, TermsBoundaries::inTheMaking, x -> x.head(0, number, 0, 0));
            for (int kind = HOLDS; kind <= OTHER; kind++) {
                final int k = kind;
                Refused.argument("item, " + number, TermsBoundaries::inTheMaking, x -> x.item(k, 0, number, 0, 0));
            }
            Refused.argument("like, " + number, TermsBoundaries::inTheMaking, x -> x.like(0, number, 0, 0));
        }
    }

    private static void eightAreAllDifferent() {
        RuleRounds x = Made.relations(3);
        x.fact(0, 0, 0, 0);
        x.fact(0, 0, 0, 1);
        x.fact(0, 1, 1, 0);
        x.head(0, 64, 70, 71);
        x.item(HOLDS, 0, 64, 65, 66);
        x.item(HOLDS, 0, 67, 68, 69);
        x.item(HOLDS, 0, 70, 71, 64);
        x.rule();
        Checks.due("matches of eight variables", 15, x.matches(0));
    }

    /** A relation with a fact, and a rule in the making. */
    private static RuleRounds inTheMaking() {
        RuleRounds x = Made.relations(1);
        x.fact(0, 3, 0, 0);
        x.head(0, 9, 0, 0);
        return x;
    }

    // ---- rules ----------------------------------------------------------------------------------------

    private static void itemsAtMost6() {
        for (int first = HOLDS; first <= OTHER; first++) {
            final int kind = first;
            RuleRounds x = sixItems(kind);
            Checks.due("six items with kind " + kind, 0, x.rule());
            for (int seventh = HOLDS; seventh <= OTHER; seventh++) {
                final int k = seventh;
                Refused.state("a seventh of kind " + k + " behind six with " + kind, () -> sixItems(kind),
                        y -> y.item(k, 0, 1, 0, 0));
            }
        }
        RuleRounds none = Made.relations(1);
        none.head(0, 63, 0, 0);
        Checks.due("no items", 0, none.rule());
        allSixAreLookedAt();
    }

    /** Three items of a kind, then three of another one. */
    private static RuleRounds sixItems(int kind) {
        RuleRounds x = Made.relations(1);
        x.head(0, 5, 0, 0);
        for (int i = 0; i < 3; i++) {
            x.item(kind, 0, 2, 0, 0);
        }
        for (int i = 0; i < 3; i++) {
            x.item(kind == OTHER ? LESS : OTHER, 0, 1, 2, 0);
        }
        return x;
    }

    private static void allSixAreLookedAt() {
        for (int kind = NOT; kind <= OTHER; kind++) {
            for (int failing = 0; failing <= 6; failing++) {
                RuleRounds x = Made.relations(2);
                x.fact(0, 3, 3, 0);
                x.head(0, 1, 1, 0);
                for (int i = 0; i < 6; i++) {
                    x.item(kind, 0, i == failing ? 3 : 2, 3, 0);
                }
                x.rule();
                Checks.due("matches if item " + failing + " of kind " + kind + " fails", failing == 6 ? 1 : 0,
                        x.matches(0));
            }
        }
    }

    private static void atMost3AreHolds() {
        for (int others = 0; others <= 3; others++) {
            final int between = others;
            Refused.state("a fourth HOLDS behind " + (3 + between), () -> threeHolds(between),
                    x -> x.item(HOLDS, 0, 1, 0, 0));
            RuleRounds three = threeHolds(between);
            Checks.due("three HOLDS and " + between, 0, three.rule());
        }
        for (int kind = NOT; kind <= OTHER; kind++) {
            Checks.due("another kind behind three HOLDS", 4, threeHolds(0).item(kind, 0, 1, 0, 0));
        }
        for (int missing = 0; missing <= 3; missing++) {
            RuleRounds x = Made.relations(1);
            x.fact(0, 1, 0, 0);
            x.head(0, 5, 0, 0);
            for (int i = 0; i < 3; i++) {
                x.item(HOLDS, 0, i == missing ? 2 : 1, 0, 0);
            }
            x.rule();
            Checks.due("matches if HOLDS " + missing + " is not there", missing == 3 ? 1 : 0, x.matches(0));
        }
    }

    private static RuleRounds threeHolds(int others) {
        RuleRounds x = Made.relations(1);
        x.head(0, 5, 0, 0);
        x.item(HOLDS, 0, X, 0, 0);
        for (int i = 0; i < others; i++) {
            x.item(OTHER, 0, 1, 2, 0);
        }
        x.item(HOLDS, 0, Y, 0, 0);
        x.item(HOLDS, 0, LAST, 0, 0);
        return x;
    }

    private static void safeIfInAHolds() {
        for (int variable = 64; variable <= 71; variable += 7) {
            for (int column = 0; column < 3; column++) {
                int[] t = Numbers.but(column, variable, 1);
                RuleRounds head = Made.relations(3, 1);
                head.head(0, t[0], t[1], t[2]);
                becomesSafe("head, column " + column, head, variable);
                RuleRounds not = Made.relations(3, 1);
                not.head(1, 1, 0, 0);
                not.item(NOT, 0, t[0], t[1], t[2]);
                becomesSafe("NOT, column " + column, not, variable);
            }
            for (int kind = LESS; kind <= OTHER; kind++) {
                RuleRounds a = Made.relations(3, 1);
                a.head(1, 1, 0, 0);
                a.item(kind, 0, variable, 1, 0);
                becomesSafe("a of kind " + kind, a, variable);
                RuleRounds b = Made.relations(3, 1);
                b.head(1, 1, 0, 0);
                b.item(kind, 0, 1, variable, 0);
                becomesSafe("b of kind " + kind, b, variable);
            }
        }
        RuleRounds none = Made.relations(1);
        none.head(0, 0, 0, 0);
        Checks.due("no variables, no HOLDS", 0, none.rule());
    }

    private static void becomesSafe(String what, RuleRounds x, int variable) {
        Checks.due(what + ", in no HOLDS", RuleRounds.UNSAFE, x.rule());
        x.item(OTHER, 0, variable, 1, 0);
        x.item(NOT, 1, variable, 0, 0);
        x.item(HOLDS, 1, variable == 64 ? 65 : 70, 0, 0);
        Checks.due(what + ", in others, but in no HOLDS", RuleRounds.UNSAFE, x.rule());
        x.item(HOLDS, 0, 1, 1, variable);
        Checks.due(what + ", in the last HOLDS", 0, x.rule());
    }

    // ---- matches --------------------------------------------------------------------------------------

    private static void eachHoldsIsThere() {
        RuleRounds x = Made.relations(2, 2, 1);
        x.fact(0, 0, 0, 0);
        x.fact(0, 0, 63, 0);
        x.fact(0, 63, 63, 0);
        x.head(2, 1, 0, 0);
        x.item(HOLDS, 0, X, Y, 0);
        x.item(HOLDS, 1, X, Y, 0);
        x.rule();
        Checks.due("one HOLDS of an empty relation", 0, x.matches(0));
        x.head(2, X, 0, 0);
        x.item(HOLDS, 0, X, X, 0);
        x.rule();
        Checks.due("the same variable twice", 2, x.matches(1));
        x.head(2, X, 0, 0);
        x.item(HOLDS, 0, 0, X, 0);
        x.item(HOLDS, 0, X, 63, 0);
        x.rule();
        Checks.due("two that go together", 2, x.matches(2));
        x.head(2, 9, 0, 0);
        x.rule();
        Checks.due("no HOLDS at all", 1, x.matches(3));
    }

    private static void eachNotIsNot() {
        RuleRounds x = Made.relations(1, 1, 1);
        Made.singles(x, 0, 64);
        Made.rule(x, 2, HOLDS, 0, NOT, 1);
        Made.rule(x, 2, HOLDS, 0, NOT, 0);
        Checks.due("NOT of an empty relation", 64, x.matches(0));
        Checks.due("NOT of what holds", 0, x.matches(1));
        x.fact(1, 0, 0, 0);
        x.fact(1, 63, 0, 0);
        Checks.due("NOT of the least and the greatest", 62, x.matches(0));
        x.head(2, 5, 0, 0);
        x.item(NOT, 1, 62, 0, 0);
        x.rule();
        Checks.due("NOT of a value that is not there", 1, x.matches(2));
        x.head(2, 5, 0, 0);
        x.item(NOT, 1, 63, 0, 0);
        x.rule();
        Checks.due("NOT of a value that is there", 0, x.matches(3));
    }

    private static void eachLessHasABelowB() {
        compares(LESS, 0, 63, 1);
        compares(LESS, 62, 63, 1);
        compares(LESS, 63, 63, 0);
        compares(LESS, 0, 0, 0);
        compares(LESS, 63, 62, 0);
        Checks.due("x below y of 64 values", 2016, comparison(LESS, X, Y).matches(0));
        Checks.due("x below x", 0, comparison(LESS, X, X).matches(0));
        Checks.due("x below 63", 63, comparison(LESS, X, 63).matches(0) / 64);
        Checks.due("x below 0", 0, comparison(LESS, X, 0).matches(0));
        Checks.due("0 below y", 63, comparison(LESS, 0, Y).matches(0) / 64);
        Checks.due("63 below y", 0, comparison(LESS, 63, Y).matches(0));
    }

    private static void eachOtherDiffers() {
        compares(OTHER, 0, 63, 1);
        compares(OTHER, 63, 62, 1);
        compares(OTHER, 63, 63, 0);
        compares(OTHER, 0, 0, 0);
        Checks.due("x and y of 64 values", 4032, comparison(OTHER, X, Y).matches(0));
        Checks.due("x and x", 0, comparison(OTHER, X, X).matches(0));
        Checks.due("x and 63", 63, comparison(OTHER, X, 63).matches(0) / 64);
        Checks.due("0 and y", 63, comparison(OTHER, 0, Y).matches(0) / 64);
    }

    private static void compares(int kind, int a, int b, int due) {
        RuleRounds x = Made.relations(1);
        x.head(0, 1, 0, 0);
        x.item(kind, 0, a, b, 0);
        x.rule();
        Checks.due(a + " and " + b + " of kind " + kind, due, x.matches(0));
        Checks.due(a + " and " + b + " of kind " + kind + ", what comes", due, x.step());
    }

    /** x and y each take all 64 values. */
    private static RuleRounds comparison(int kind, int a, int b) {
        RuleRounds x = Made.relations(1, 2);
        Made.singles(x, 0, 64);
        x.head(1, X, Y, 0);
        x.item(HOLDS, 0, X, 0, 0);
        x.item(HOLDS, 0, Y, 0, 0);
        x.item(kind, 0, a, b, 0);
        x.rule();
        return x;
    }

    private static void headFollows() {
        RuleRounds x = Made.relations(1, 3);
        x.fact(0, 0, 0, 0);
        x.fact(0, 63, 0, 0);
        x.head(1, X, 63, X);
        x.item(HOLDS, 0, X, 0, 0);
        x.rule();
        x.head(1, 0, 0, 0);
        x.item(HOLDS, 0, X, 0, 0);
        x.rule();
        x.head(1, 9, 9, 9);
        x.item(HOLDS, 0, 62, 0, 0);
        x.rule();
        Checks.due("two by variables, one by values from two matches, none without a match", 3, x.step());
        Checks.due("of 0", true, x.has(1, 0, 63, 0));
        Checks.due("of 63", true, x.has(1, 63, 63, 63));
        Checks.due("of values alone", true, x.has(1, 0, 0, 0));
        Checks.due("without a match", false, x.has(1, 9, 9, 9));
    }

    // ---- all calls ------------------------------------------------------------------------------------

    private static void outOfBounds() {
        Refused.argument("relation", TermsBoundaries::derived, x -> x.relation(4));
        Refused.argument("fact", TermsBoundaries::derived, x -> x.fact(0, 64, 0, 0));
        Refused.argument("drop", TermsBoundaries::derived, x -> x.drop(0, 64, 0, 0));
        Refused.argument("head", TermsBoundaries::derived, x -> x.head(0, 72, 0, 0));
        Refused.argument("item", TermsBoundaries::derived, x -> x.item(HOLDS, 0, 72, 0, 0));
        Refused.argument("item, kind", TermsBoundaries::derived, x -> x.item(4, 0, 0, 0, 0));
        Refused.argument("has", TermsBoundaries::derived, x -> x.has(0, 64, 0, 0));
        Refused.argument("tuple, place", TermsBoundaries::derived, x -> x.tuple(0, -1, 0));
        Refused.argument("tuple, what", TermsBoundaries::derived, x -> x.tuple(0, 0, 5));
        Refused.argument("like", TermsBoundaries::derived, x -> x.like(0, 72, 0, 0));
        Refused.argument("matches", TermsBoundaries::derived, x -> x.matches(-1));
    }

    /** Three relations, facts 0 to 2 of relation 0 that are derived for relation 1, and a rule in the making. */
    private static RuleRounds derived() {
        RuleRounds x = Made.relations(1, 1, 2);
        Made.singles(x, 0, 3);
        Made.copy(x, 1, 0);
        x.step();
        x.head(1, 63, 0, 0);
        x.item(HOLDS, 0, 2, 0, 0);
        return x;
    }

    private static void noSuchOne() {
        for (int number : Numbers.none(3)) {
            String what = ", relation " + number;
            Refused.argument("fact" + what, TermsBoundaries::derived, x -> x.fact(number, 0, 0, 0));
            Refused.argument("drop" + what, TermsBoundaries::derived, x -> x.drop(number, 0, 0, 0));
            Refused.argument("head" + what, TermsBoundaries::derived, x -> x.head(number, 0, 0, 0));
            Refused.argument("HOLDS" + what, TermsBoundaries::derived, x -> x.item(HOLDS, number, 0, 0, 0));
            Refused.argument("NOT" + what, TermsBoundaries::derived, x -> x.item(NOT, number, 0, 0, 0));
            Refused.argument("stratum" + what, TermsBoundaries::derived, x -> x.stratum(number));
            Refused.argument("count" + what, TermsBoundaries::derived, x -> x.count(number));
            Refused.argument("has" + what, TermsBoundaries::derived, x -> x.has(number, 0, 0, 0));
            Refused.argument("tuple" + what, TermsBoundaries::derived, x -> x.tuple(number, 0, 0));
            Refused.argument("like" + what, TermsBoundaries::derived, x -> x.like(number, 0, 0, 0));
            Refused.argument("tuple, place " + number, TermsBoundaries::derived, x -> x.tuple(1, number, 0));
        }
        for (int number : Numbers.none(1)) {
            Refused.argument("matches, rule " + number, TermsBoundaries::derived, x -> x.matches(number));
        }
        Refused.argument("the rule in the making is none", TermsBoundaries::derived, x -> x.matches(1));
    }

    private static void firstNamedIsThrown() {
        RuleRounds twelve = Made.relations(1, 1, 1, 1, 1, 1, 1, 1, 1, 1, 1, 1);
        Checks.argument("relation of 0 columns when there are 12", () -> twelve.relation(0));
        Checks.argument("relation of 4 columns when there are 12", () -> twelve.relation(4));
        RuleRounds given = Made.relations(2);
        Made.pairs(given, 0, 200);
        Checks.argument("fact of no relation when there are 200", () -> given.fact(1, 0, 0, 0));
        Checks.argument("fact of no value when there are 200", () -> given.fact(0, 9, 64, 0));
        Checks.argument("fact with c when there are 200", () -> given.fact(0, 9, 0, 1));
        RuleRounds headless = Made.relations(1);
        Checks.argument("item of no kind without a head", () -> headless.item(4, 0, 0, 0, 0));
        Checks.argument("item of no relation without a head", () -> headless.item(NOT, 1, 0, 0, 0));
        Checks.argument("item of no term without a head", () -> headless.item(HOLDS, 0, 72, 0, 0));
        Checks.argument("LESS with c without a head", () -> headless.item(LESS, 0, 1, 2, 3));
        RuleRounds six = sixItems(HOLDS);
        Checks.argument("item of no kind behind six", () -> six.item(-1, 0, 0, 0, 0));
        Checks.argument("item of no relation behind six", () -> six.item(HOLDS, 1, 0, 0, 0));
        Checks.argument("item of no term behind six", () -> six.item(NOT, 0, -1, 0, 0));
        Checks.argument("OTHER with a relation behind six", () -> six.item(OTHER, 1, 0, 0, 0));
        RuleRounds cycle = Made.relations(1);
        Made.rule(cycle, 0, HOLDS, 0, NOT, 0);
        Checks.argument("stratum of no relation with a cycle", () -> cycle.stratum(1));
    }

    private static void throwingChangesNothing() {
        RuleRounds x = derived();
        Checks.argument("relation", () -> x.relation(0));
        Checks.argument("fact", () -> x.fact(0, 64, 0, 0));
        Checks.argument("drop", () -> x.drop(0, 0, 1, 0));
        Checks.argument("head", () -> x.head(1, 72, 0, 0));
        Checks.argument("item", () -> x.item(HOLDS, 0, 72, 0, 0));
        Checks.argument("like", () -> x.like(0, 0, X, 0));
        Checks.due("derived tuples", 3, x.count(1));
        Checks.due("rounds", 1, x.rounds());
        Checks.due("the rule in the making has its item", 2, x.item(LESS, 0, 1, 2, 0));
        Checks.due("and its head", 1, x.rule());
        Checks.due("its number of matches", 1, x.matches(1));
        Checks.due("the next relation", 3, x.relation(1));
        Checks.due("its head's tuple", 4, x.step());
        Checks.state("rule", () -> x.rule());
        Checks.state("item without a head", () -> x.item(LESS, 0, 1, 2, 0));
        Checks.state("rule, still", () -> x.rule());
        Checks.due("derived tuples stay", 4, x.count(1));
    }

    private static void constants() {
        Checks.due("NONE", -1, RuleRounds.NONE);
        Checks.due("UNSAFE", -2, RuleRounds.UNSAFE);
        Checks.due("CYCLE", -3, RuleRounds.CYCLE);
        Checks.due("DONE", -4, RuleRounds.DONE);
        Checks.due("FULL", -5, RuleRounds.FULL);
        RuleRounds x = Made.relations(1);
        x.fact(0, 0, 0, 0);
        Checks.due("the rule of a fact", -1, x.tuple(0, 0, 4));
        x.head(0, X, 0, 0);
        Checks.due("rule", -2, x.rule());
        x.run();
        Checks.due("step behind all", -4, x.step());
        Made.rule(x, 0, HOLDS, 0, NOT, 0);
        Checks.due("strata", -3, x.strata());
        RuleRounds full = Made.relations(1, 2);
        Made.singles(full, 0, 64);
        Made.product(full, 1, 0);
        Checks.due("step to 4096 tuples", -5, full.step());
    }
}
