/** Promises 13 to 17, what is there: a method for each sentence that names a boundary. */
final class AnswerBoundaries {
    private static final int HOLDS = Made.HOLDS;
    private static final int NOT = Made.NOT;
    private static final int LESS = Made.LESS;
    private static final int OTHER = Made.OTHER;
    private static final int X = Made.X;
    private static final int Y = Made.Y;
    private static final int Z = Made.Z;
    private static final int LAST = Made.LAST;

    private static final String COUNT = "Promise 13: count";
    private static final String HAS = "Promise 14: has";
    private static final String TUPLE = "Promise 15: tuple";
    private static final String LIKE = "Promise 16: like";
    private static final String MATCHES = "Promise 17: matches";

    private AnswerBoundaries() {
    }

    static void all() {
        Sentence.holds(COUNT, "How many tuples a relation has.", AnswerBoundaries::howManyTuples);
        Sentence.holds(COUNT, "Illegal argument.", AnswerBoundaries::countIllegalArgument);
        Sentence.holds(HAS, "Whether a tuple is there.", AnswerBoundaries::whetherATupleIsThere);
        Sentence.holds(HAS, "Illegal argument.", AnswerBoundaries::hasIllegalArgument);
        Sentence.holds(TUPLE, "Of the tuple of a relation that has so many others before it (by a, then b, then c):",
                AnswerBoundaries::soManyOthersBeforeIt);
        Sentence.holds(TUPLE, "what = 0, 1, 2 its a, b, c;", AnswerBoundaries::itsValues);
        Sentence.holds(TUPLE, "3 its ROUND;", AnswerBoundaries::itsRound);
        Sentence.holds(TUPLE, "4 its RULE.", AnswerBoundaries::itsRule);
        Sentence.holds(TUPLE, "Illegal argument:", AnswerBoundaries::noSuchTuple);
        Sentence.holds(TUPLE, "also if what is none of these.", AnswerBoundaries::whatIsNoneOfThese);
        Sentence.holds(LIKE, "How many tuples of a relation are like the terms, for some values of variables",
                AnswerBoundaries::likeTheTerms);
        Sentence.holds(LIKE, "(the same one for the same variable).", AnswerBoundaries::theSameForTheSame);
        Sentence.holds(LIKE, "Illegal argument: as for head().", AnswerBoundaries::likeIllegalArgument);
        Sentence.holds(MATCHES, "How many matches a rule has", AnswerBoundaries::howManyMatches);
        Sentence.holds(MATCHES, "by all tuples that are there now.", AnswerBoundaries::byAllThereNow);
        Sentence.holds(MATCHES, "Illegal argument.", AnswerBoundaries::matchesIllegalArgument);
    }

    /** Relations of 1, 2, 3 and 3 columns, the least and the greatest tuple in the first three, one derived. */
    private static RuleRounds corners() {
        RuleRounds x = Made.relations(1, 2, 3, 3);
        x.fact(0, 0, 0, 0);
        x.fact(0, 63, 0, 0);
        x.fact(1, 0, 0, 0);
        x.fact(1, 63, 63, 0);
        x.fact(2, 0, 0, 0);
        x.fact(2, 63, 63, 63);
        x.head(2, X, 1, X);
        x.item(HOLDS, 1, X, 63, 0);
        x.rule();
        x.run();
        return x;
    }

    // ---- 13 and 14 ------------------------------------------------------------------------------------

    private static void howManyTuples() {
        RuleRounds x = corners();
        Checks.due("the least and the greatest of one column", 2, x.count(0));
        Checks.due("of two", 2, x.count(1));
        Checks.due("of three, and a derived one", 3, x.count(2));
        Checks.due("an empty one", 0, x.count(3));
        RuleRounds last = Made.relations(1, 1, 1, 1, 1, 1, 1, 1, 1, 1, 1, 3);
        last.fact(11, 63, 63, 63);
        last.fact(0, 0, 0, 0);
        Checks.due("the greatest tuple of relation 11", 1, last.count(11));
        Checks.due("the least of relation 0", 1, last.count(0));
        Checks.due("none between", 0, last.count(1) + last.count(10));
        RuleRounds one = Made.relations(2);
        Made.pairs(one, 0, 200);
        for (int i = 0; i < 10; i++) {
            one.head(0, 10 + i, X, 0);
            one.item(HOLDS, 0, i % 3, X, 0);
            one.item(LESS, 0, X, 10, 0);
            one.rule();
        }
        Checks.due("a hundred more", 100, one.run());
        Checks.due("all 300 in one relation", 300, one.count(0));
    }

    private static void countIllegalArgument() {
        for (int relation : Numbers.none(4)) {
            Refused.argument("relation " + relation, AnswerBoundaries::corners, x -> x.count(relation));
        }
        Refused.argument("relation 0 of none", RuleRounds::new, x -> x.count(0));
    }

    private static void whetherATupleIsThere() {
        RuleRounds x = corners();
        Checks.due("least of one column", true, x.has(0, 0, 0, 0));
        Checks.due("greatest of one column", true, x.has(0, 63, 0, 0));
        Checks.due("greatest of two", true, x.has(1, 63, 63, 0));
        Checks.due("greatest of three", true, x.has(2, 63, 63, 63));
        Checks.due("a derived one", true, x.has(2, 63, 1, 63));
        Checks.due("beside the greatest", false, x.has(2, 63, 63, 62));
        Checks.due("b beside", false, x.has(2, 63, 62, 63));
        Checks.due("a beside", false, x.has(2, 62, 63, 63));
        Checks.due("beside the least", false, x.has(2, 0, 0, 1));
        Checks.due("least of an empty one", false, x.has(3, 0, 0, 0));
        Checks.due("greatest of an empty one", false, x.has(3, 63, 63, 63));
        x.drop(1, 63, 63, 0);
        Checks.due("what was dropped", false, x.has(1, 63, 63, 0));
        Checks.due("what was derived from it", false, x.has(2, 63, 1, 63));
        RuleRounds one = Made.relations(1);
        one.fact(0, 63, 0, 0);
        one.drop(0, 63, 0, 0);
        Checks.due("the only one when it was dropped", false, one.has(0, 63, 0, 0));
    }

    private static void hasIllegalArgument() {
        for (int relation : Numbers.none(4)) {
            Refused.argument("relation " + relation, AnswerBoundaries::corners, x -> x.has(relation, 0, 0, 0));
        }
        for (int column = 0; column < 3; column++) {
            for (int number : Numbers.NO_VALUES) {
                int[] t = Numbers.but(column, number, 0);
                Refused.argument(number + " in column " + column, AnswerBoundaries::corners,
                        x -> x.has(2, t[0], t[1], t[2]));
            }
        }
        for (int number : Numbers.NOT_ZERO) {
            Refused.argument("b of one column is " + number, AnswerBoundaries::corners, x -> x.has(0, 0, number, 0));
            Refused.argument("c of one column is " + number, AnswerBoundaries::corners, x -> x.has(0, 0, 0, number));
            Refused.argument("c of two columns is " + number, AnswerBoundaries::corners, x -> x.has(1, 0, 0, number));
        }
    }

    // ---- 15 -------------------------------------------------------------------------------------------

    private static void soManyOthersBeforeIt() {
        int[][] inOrder = {{0, 0, 0}, {0, 0, 63}, {0, 1, 0}, {0, 63, 63}, {1, 0, 0}, {1, 0, 1}, {62, 63, 63},
            {63, 0, 0}, {63, 63, 62}, {63, 63, 63}};
        int[] given = {9, 0, 5, 3, 8, 1, 7, 2, 6, 4};
        RuleRounds x = Made.relations(3, 3, 3);
        x.fact(0, 63, 63, 63);
        x.fact(2, 0, 0, 0);
        for (int i : given) {
            x.fact(1, inOrder[i][0], inOrder[i][1], inOrder[i][2]);
        }
        for (int place = 0; place < 10; place++) {
            for (int what = 0; what < 3; what++) {
                Checks.due("place " + place + ", column " + what, inOrder[place][what], x.tuple(1, place, what));
            }
        }
        Checks.due("the one of relation 0", 63, x.tuple(0, 0, 0));
        Checks.due("the one of relation 2", 0, x.tuple(2, 0, 0));
        x.drop(1, 0, 0, 0);
        Checks.due("what was second is first", 63, x.tuple(1, 0, 2));
        derivedOnesBetween();
    }

    private static void derivedOnesBetween() {
        RuleRounds x = Made.relations(1);
        x.fact(0, 0, 0, 0);
        x.fact(0, 62, 0, 0);
        Made.always(x, 0, 63);
        Made.always(x, 0, 1);
        x.step();
        Checks.due("a derived one is second", 1, x.tuple(0, 1, 0));
        Checks.due("a fact is third", 62, x.tuple(0, 2, 0));
        Checks.due("a derived one is last", 63, x.tuple(0, 3, 0));
        RuleRounds most = Made.relations(2, 1);
        Made.singles(most, 1, 20);
        Made.pairs(most, 0, 20);
        for (int i = 0; i < 13; i++) {
            most.head(0, 63 - i, X, 0);
            most.item(HOLDS, 1, X, 0, 0);
            most.rule();
        }
        Checks.due("derived", 260, most.step());
        Checks.due("the last of 280", 19, most.tuple(0, 279, 1));
        Checks.due("the 256th", 62, most.tuple(0, 256, 0));
    }

    private static void itsValues() {
        RuleRounds x = Made.relations(3, 2, 1);
        x.fact(0, 0, 63, 31);
        x.fact(1, 63, 62, 0);
        x.fact(2, 61, 0, 0);
        Checks.due("a", 0, x.tuple(0, 0, 0));
        Checks.due("b", 63, x.tuple(0, 0, 1));
        Checks.due("c", 31, x.tuple(0, 0, 2));
        Checks.due("a of two", 63, x.tuple(1, 0, 0));
        Checks.due("b of two", 62, x.tuple(1, 0, 1));
        Checks.due("c of two", 0, x.tuple(1, 0, 2));
        Checks.due("a of one", 61, x.tuple(2, 0, 0));
        Checks.due("b of one", 0, x.tuple(2, 0, 1));
        Checks.due("c of one", 0, x.tuple(2, 0, 2));
        valuesOfDerivedOnes();
    }

    /** A column that the relation does not have is 0, between tuples that have other numbers there. */
    private static void valuesOfDerivedOnes() {
        RuleRounds x = Made.relations(3, 1, 3, 2, 3);
        for (int relation = 0; relation < 5; relation += 2) {
            x.fact(relation, 63, 62, 61);
        }
        x.head(1, X, 0, 0);
        x.item(HOLDS, 0, X, Y, Z);
        x.rule();
        x.head(3, Y, Z, 0);
        x.item(HOLDS, 0, X, Y, Z);
        x.rule();
        Checks.due("derived", 2, x.run());
        int[][] due = {{63, 62, 61}, {63, 0, 0}, {63, 62, 61}, {62, 61, 0}, {63, 62, 61}};
        for (int relation = 0; relation < 5; relation++) {
            for (int what = 0; what < 3; what++) {
                Checks.due("what " + what + " of relation " + relation, due[relation][what],
                        x.tuple(relation, 0, what));
            }
        }
    }

    private static void itsRound() {
        RuleRounds x = Made.relations(2, 2);
        Made.chain(x, 0, 3);
        Made.closure(x, 0, 1);
        x.run();
        int[] due = {1, 2, 3, 1, 2, 1};
        for (int place = 0; place < 6; place++) {
            Checks.due("place " + place, due[place], x.tuple(1, place, 3));
        }
        Checks.due("a fact", 0, x.tuple(0, 0, 3));
    }

    private static void itsRule() {
        RuleRounds x = Made.relations(2, 2);
        Made.chain(x, 0, 3);
        Made.closure(x, 0, 1);
        Made.closure(x, 0, 1);
        x.run();
        int[] due = {0, 1, 1, 0, 1, 0};
        for (int place = 0; place < 6; place++) {
            Checks.due("place " + place, due[place], x.tuple(1, place, 4));
        }
        Checks.due("a fact", RuleRounds.NONE, x.tuple(0, 2, 4));
        RuleRounds last = Made.relations(1);
        for (int rule = 0; rule < 24; rule++) {
            Made.always(last, 0, 40 - rule);
        }
        last.run();
        Checks.due("the last rule", 23, last.tuple(0, 0, 4));
        Checks.due("the first rule", 0, last.tuple(0, 23, 4));
    }

    private static void noSuchTuple() {
        for (int place : Numbers.none(2)) {
            Refused.argument("place " + place + " of two", AnswerBoundaries::corners, x -> x.tuple(1, place, 0));
        }
        for (int place : Numbers.none(3)) {
            Refused.argument("place " + place + " of three", AnswerBoundaries::corners, x -> x.tuple(2, place, 3));
        }
        for (int place : Numbers.none(0)) {
            Refused.argument("place " + place + " of none", AnswerBoundaries::corners, x -> x.tuple(3, place, 0));
        }
        for (int relation : Numbers.none(4)) {
            Refused.argument("relation " + relation, AnswerBoundaries::corners, x -> x.tuple(relation, 0, 0));
        }
        for (int i = 1; i < 3; i++) {
            final int what = i;
            Refused.argument("place 2 of two, a column that is none", AnswerBoundaries::corners,
                    x -> x.tuple(0, 2, what));
        }
        Checks.due("the last place", 63, corners().tuple(2, 2, 2));
    }

    private static void whatIsNoneOfThese() {
        for (int what : new int[] {-1, 5, 6, 64, Integer.MIN_VALUE, Integer.MAX_VALUE}) {
            for (int i = 0; i < 3; i++) {
                final int relation = i;
                Refused.argument("what is " + what, AnswerBoundaries::corners, x -> x.tuple(relation, 0, what));
            }
        }
    }

    // ---- 16 -------------------------------------------------------------------------------------------

    private static void likeTheTerms() {
        RuleRounds x = corners();
        Checks.due("all of one column", 2, x.like(0, X, 0, 0));
        Checks.due("the greatest of one column", 1, x.like(0, 63, 0, 0));
        Checks.due("beside it", 0, x.like(0, 62, 0, 0));
        Checks.due("all of two", 2, x.like(1, X, Y, 0));
        Checks.due("by b", 1, x.like(1, X, 63, 0));
        Checks.due("all of three, with a derived one", 3, x.like(2, X, Y, Z));
        Checks.due("by a", 2, x.like(2, 63, Y, LAST));
        Checks.due("by b, in the middle", 1, x.like(2, X, 1, Y));
        Checks.due("by c", 2, x.like(2, X, Y, 63));
        Checks.due("the greatest of three", 1, x.like(2, 63, 63, 63));
        Checks.due("the least of three", 1, x.like(2, 0, 0, 0));
        Checks.due("none like that", 0, x.like(2, 62, X, Y));
        Checks.due("an empty relation", 0, x.like(3, X, Y, Z));
        x.head(0, 9, 0, 0);
        x.like(2, X, Y, Z);
        Checks.due("the rule in the making is left alone", 1, x.item(LESS, 0, 1, 2, 0));
        Checks.argument("no rule came", () -> x.matches(1));
        Checks.due("derived tuples stay", 3, x.count(2));
    }

    private static void theSameForTheSame() {
        RuleRounds x = Made.relations(2, 3);
        int[][] given = {{0, 0, 0}, {63, 63, 63}, {0, 0, 63}, {0, 63, 0}, {63, 0, 0}, {0, 1, 2}};
        for (int[] t : given) {
            x.fact(1, t[0], t[1], t[2]);
        }
        x.fact(0, 63, 63, 0);
        x.fact(0, 0, 63, 0);
        for (int variable = 64; variable <= 71; variable++) {
            int other = variable == 71 ? 64 : variable + 1;
            Checks.due("twice in two columns", 1, x.like(0, variable, variable, 0));
            Checks.due("two in two columns", 2, x.like(0, variable, other, 0));
            Checks.due("a and b", 3, x.like(1, variable, variable, other));
            Checks.due("a and c", 3, x.like(1, variable, other, variable));
            Checks.due("b and c", 3, x.like(1, other, variable, variable));
            Checks.due("three times", 2, x.like(1, variable, variable, variable));
            Checks.due("twice behind 0", 1, x.like(1, 0, variable, variable));
            Checks.due("twice behind 63", 2, x.like(1, 63, variable, variable));
        }
    }

    private static void likeIllegalArgument() {
        for (int term : new int[] {0, 63, 64, 71}) {
            Checks.due("a is " + term, term < 64 ? 1 : 2, corners().like(0, term, 0, 0));
        }
        for (int relation : Numbers.none(4)) {
            Refused.argument("relation " + relation, AnswerBoundaries::corners, x -> x.like(relation, 0, 0, 0));
        }
        for (int column = 0; column < 3; column++) {
            for (int number : Numbers.NO_TERMS) {
                int[] t = Numbers.but(column, number, X);
                Refused.argument(number + " in column " + column, AnswerBoundaries::corners,
                        x -> x.like(2, t[0], t[1], t[2]));
            }
        }
        for (int number : Numbers.NOT_ZERO) {
            Refused.argument("b of one column is " + number, AnswerBoundaries::corners, x -> x.like(0, X, number, 0));
            Refused.argument("c of one column is " + number, AnswerBoundaries::corners, x -> x.like(0, X, 0, number));
            Refused.argument("c of two columns is " + number, AnswerBoundaries::corners, x -> x.like(1, X, Y, number));
        }
    }

    // ---- 17 -------------------------------------------------------------------------------------------

    private static void howManyMatches() {
        RuleRounds x = Made.relations(1, 1, 1);
        Made.singles(x, 0, 64);
        Made.always(x, 1, 5);
        Checks.due("no items", 1, x.matches(0));
        Made.copy(x, 1, 2);
        Checks.due("an empty relation", 0, x.matches(1));
        x.head(1, 5, 0, 0);
        x.item(HOLDS, 0, X, 0, 0);
        x.item(HOLDS, 0, Y, 0, 0);
        x.item(HOLDS, 0, Z, 0, 0);
        x.rule();
        Checks.due("each of three has 64 values", 64 * 64 * 64, x.matches(2));
        x.head(1, 5, 0, 0);
        x.item(HOLDS, 0, X, 0, 0);
        x.item(HOLDS, 0, X, 0, 0);
        x.item(HOLDS, 0, X, 0, 0);
        x.rule();
        Checks.due("one variable has 64", 64, x.matches(3));
        x.head(1, X, 0, 0);
        x.item(LESS, 0, X, Y, 0);
        x.item(HOLDS, 0, Y, 0, 0);
        x.item(HOLDS, 0, X, 0, 0);
        x.item(OTHER, 0, Y, 63, 0);
        x.item(NOT, 2, X, 0, 0);
        Checks.due("a rule of all kinds", 4, x.rule());
        Checks.due("its matches", 63 * 62 / 2, x.matches(4));
        x.fact(2, 0, 0, 0);
        Checks.due("with a NOT that fails for one", 62 * 61 / 2, x.matches(4));
        RuleRounds most = Made.relations(2, 2);
        Made.pairs(most, 0, 200);
        most.head(1, 0, 0, 0);
        most.item(HOLDS, 0, 64, 65, 0);
        most.item(HOLDS, 0, 66, 67, 0);
        most.item(HOLDS, 0, 68, 69, 0);
        most.rule();
        Checks.due("200 facts three times", 8000000, most.matches(0));
    }

    private static void byAllThereNow() {
        RuleRounds x = Made.relations(1, 1, 1);
        Made.copy(x, 1, 0);
        Made.rule(x, 2, HOLDS, 0, NOT, 1);
        Made.rule(x, 2, HOLDS, 1, HOLDS, 0);
        Checks.due("nothing is there", 0, x.matches(0) + x.matches(1) + x.matches(2));
        x.fact(0, 0, 0, 0);
        x.fact(0, 63, 0, 0);
        Checks.due("by facts", 2, x.matches(0));
        Checks.due("NOT of what is not derived yet", 2, x.matches(1));
        Checks.due("HOLDS of what is not derived yet", 0, x.matches(2));
        x.step();
        Checks.due("what matched before matches still", 2, x.matches(0));
        Checks.due("NOT of what is derived", 0, x.matches(1));
        Checks.due("HOLDS of what is derived, above the stratum at hand", 2, x.matches(2));
        x.fact(0, 1, 0, 0);
        Checks.due("derived tuples are gone", 3, x.matches(1));
        x.run();
        x.drop(0, 1, 0, 0);
        Checks.due("and a fact is gone", 2, x.matches(1));
        Made.rule(x, 0, HOLDS, 0, NOT, 2);
        Checks.due("a cycle", RuleRounds.CYCLE, x.strata());
        Checks.due("by what is there in a cycle", 2, x.matches(3));
    }

    private static void matchesIllegalArgument() {
        for (int rule : Numbers.none(1)) {
            Refused.argument("rule " + rule + " of one", AnswerBoundaries::corners, x -> x.matches(rule));
        }
        Refused.argument("rule 0 of none", () -> Made.relations(1), x -> x.matches(0));
        RuleRounds most = Made.relations(1);
        for (int rule = 0; rule < 24; rule++) {
            Made.always(most, 0, rule);
        }
        Checks.due("rule 23 of 24", 1, most.matches(23));
        for (int rule : Numbers.none(24)) {
            Checks.argument("rule " + rule + " of 24", () -> most.matches(rule));
        }
        RuleRounds making = corners();
        making.head(0, 1, 0, 0);
        Checks.argument("the rule in the making", () -> making.matches(1));
    }
}
