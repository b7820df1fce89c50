/** Promises 8 to 12, strata and rounds: a method for each sentence that names a boundary. */
final class DerivingBoundaries {
    private static final int HOLDS = Made.HOLDS;
    private static final int NOT = Made.NOT;
    private static final int X = Made.X;
    private static final int Y = Made.Y;

    private static final String STRATA = "Promise 8: strata";
    private static final String STRATUM = "Promise 9: stratum";
    private static final String STEP = "Promise 10: step";
    private static final String RUN = "Promise 11: run";
    private static final String ROUNDS = "Promise 12: rounds";

    private DerivingBoundaries() {
    }

    static void all() {
        Sentence.holds(STRATA, "How many strata there are: 1 more than the greatest one of a relation,",
                DerivingBoundaries::oneMoreThanTheGreatest);
        Sentence.holds(STRATA, "0 without relations;", DerivingBoundaries::strataWithoutRelations);
        Sentence.holds(STRATA, "CYCLE.", DerivingBoundaries::strataOfACycle);
        Sentence.holds(STRATUM, "The stratum of a relation.", DerivingBoundaries::stratumOfARelation);
        Sentence.holds(STRATUM, "Illegal argument;", DerivingBoundaries::stratumIllegalArgument);
        Sentence.holds(STRATUM, "illegal state: there is a CYCLE.", DerivingBoundaries::stratumOfACycle);
        Sentence.holds(STEP, "One round: how many tuples came;", DerivingBoundaries::howManyCame);
        Sentence.holds(STEP, "CYCLE,", DerivingBoundaries::stepOfACycle);
        Sentence.holds(STEP, "DONE (there is no round),", DerivingBoundaries::doneIsNoRound);
        Sentence.holds(STEP, "FULL.", DerivingBoundaries::stepIsFull);
        Sentence.holds(RUN, "Rounds until all is done: how many tuples are derived;",
                DerivingBoundaries::howManyAreDerived);
        Sentence.holds(RUN, "CYCLE;", DerivingBoundaries::runOfACycle);
        Sentence.holds(RUN, "FULL.", DerivingBoundaries::runIsFull);
        Sentence.holds(ROUNDS, "How many rounds there were since deriving began.",
                DerivingBoundaries::roundsSinceDerivingBegan);
    }

    // ---- 8 and 9 --------------------------------------------------------------------------------------

    private static void oneMoreThanTheGreatest() {
        RuleRounds x = new RuleRounds();
        for (int relation = 0; relation < 12; relation++) {
            x.relation(1);
            Checks.due("a relation of stratum 0 more", Math.max(1, relation), x.strata());
            if (relation > 0) {
                Made.rule(x, relation, HOLDS, 0, NOT, relation - 1);
                Checks.due("a relation above the one before", relation + 1, x.strata());
            }
        }
        RuleRounds first = Made.relations(1, 1, 1);
        Made.rule(first, 0, HOLDS, 1, NOT, 2);
        Checks.due("the greatest is that of relation 0", 2, first.strata());
        first.fact(0, 1, 0, 0);
        first.run();
        Checks.due("facts and rounds change none", 2, first.strata());
    }

    private static void strataWithoutRelations() {
        RuleRounds x = new RuleRounds();
        Checks.due("a new object", 0, x.strata());
        x.step();
        x.run();
        Checks.argument("a relation that is refused", () -> x.relation(0));
        Checks.due("still", 0, x.strata());
        x.relation(1);
        Checks.due("with one", 1, x.strata());
    }

    /** Two relations in a cycle, relation 2 apart from it; facts in each. */
    private static RuleRounds cycle() {
        RuleRounds x = Made.relations(1, 1, 1, 1);
        Made.copy(x, 3, 2);
        Made.copy(x, 0, 1);
        for (int relation = 0; relation < 3; relation++) {
            x.fact(relation, relation, 0, 0);
        }
        x.run();
        Made.rule(x, 1, HOLDS, 2, NOT, 0);
        return x;
    }

    private static void strataOfACycle() {
        RuleRounds x = cycle();
        Checks.due("a cycle", RuleRounds.CYCLE, x.strata());
        x.relation(1);
        Checks.due("with a relation more", RuleRounds.CYCLE, x.strata());
        Made.copy(x, 3, 2);
        Checks.due("with a rule more", RuleRounds.CYCLE, x.strata());
        x.drop(2, 2, 0, 0);
        Checks.due("with a fact less", RuleRounds.CYCLE, x.strata());
        RuleRounds making = Made.relations(1);
        making.head(0, 1, 0, 0);
        making.item(NOT, 0, 1, 0, 0);
        Checks.due("a rule in the making makes none", 1, making.strata());
        making.rule();
        Checks.due("a rule does", RuleRounds.CYCLE, making.strata());
    }

    private static void stratumOfARelation() {
        RuleRounds x = Made.relations(1, 1, 1, 1, 1, 1, 1, 1, 1, 1, 1, 1);
        Checks.due("the first", 0, x.stratum(0));
        Checks.due("the last", 0, x.stratum(11));
        Made.rule(x, 11, HOLDS, 5, NOT, 5);
        Made.rule(x, 0, HOLDS, 5, NOT, 11);
        Checks.due("the first, above the last", 2, x.stratum(0));
        Checks.due("the last, above one between", 1, x.stratum(11));
        Checks.due("one between", 0, x.stratum(5));
    }

    private static void stratumIllegalArgument() {
        for (int relation : Numbers.none(2)) {
            Refused.argument("relation " + relation, () -> Made.relations(1, 1), x -> x.stratum(relation));
        }
        for (int relation : Numbers.none(12)) {
            Refused.argument("relation " + relation + " of 12",
                    () -> Made.relations(1, 1, 1, 1, 1, 1, 1, 1, 1, 1, 1, 1), x -> x.stratum(relation));
        }
        Refused.argument("relation 0 of none", RuleRounds::new, x -> x.stratum(0));
    }

    private static void stratumOfACycle() {
        for (int i = 0; i < 4; i++) {
            final int relation = i;
            Refused.state("relation " + relation, DerivingBoundaries::cycle, x -> x.stratum(relation));
        }
        RuleRounds x = cycle();
        Checks.argument("no relation", () -> x.stratum(4));
        Checks.argument("no relation", () -> x.stratum(-1));
        x.relation(1);
        Checks.state("a new one", () -> x.stratum(4));
    }

    // ---- 10 -------------------------------------------------------------------------------------------

    private static void howManyCame() {
        RuleRounds x = Made.relations(2, 2);
        Made.chain(x, 0, 4);
        Made.closure(x, 0, 1);
        for (int came = 4; came >= 0; came--) {
            Checks.due("a round", came, x.step());
        }
        Checks.due("rounds", 5, x.rounds());
        RuleRounds most = Made.relations(1, 2);
        Made.singles(most, 0, 16);
        Made.product(most, 1, 0);
        Checks.due("many at once", 256, most.step());
        RuleRounds all = Made.relations(3, 3);
        all.fact(0, 0, 0, 0);
        all.head(1, X, X, X);
        all.item(HOLDS, 0, X, X, X);
        all.rule();
        Checks.due("one", 1, all.step());
    }

    private static void stepOfACycle() {
        RuleRounds x = cycle();
        Checks.due("step", RuleRounds.CYCLE, x.step());
        Checks.due("again", RuleRounds.CYCLE, x.step());
        Checks.due("no round", 0, x.rounds());
        Checks.due("nothing came", 0, x.count(3));
        Checks.due("facts are there", 1, x.count(2));
    }

    private static void doneIsNoRound() {
        RuleRounds bare = new RuleRounds();
        Checks.due("without relations", RuleRounds.DONE, bare.step());
        Checks.due("no round", 0, bare.rounds());
        RuleRounds x = Made.relations(1, 1);
        x.fact(0, 5, 0, 0);
        Made.copy(x, 1, 0);
        Checks.due("one comes", 1, x.step());
        Checks.due("none comes, but it is a round", 0, x.step());
        for (int time = 0; time < 3; time++) {
            Checks.due("behind all", RuleRounds.DONE, x.step());
            Checks.due("rounds", 2, x.rounds());
            Checks.due("what is derived stays", 1, x.count(1));
        }
    }

    /** 200 facts; 100 tuples follow in stratum 0, so many more in stratum 1. */
    private static RuleRounds full(int more) {
        RuleRounds x = Made.relations(1, 2, 2, 1);
        Made.singles(x, 0, 10);
        Made.pairs(x, 2, 190);
        Made.product(x, 1, 0);
        for (int i = 0; i < more; i++) {
            x.head(3, 63 - i, 0, 0);
            x.item(NOT, 1, 63, 63, 0);
            x.rule();
        }
        return x;
    }

    private static void stepIsFull() {
        RuleRounds x = full(1);
        Checks.due("300", 100, x.step());
        Checks.due("the end of stratum 0", 0, x.step());
        Checks.due("301", RuleRounds.FULL, x.step());
        Checks.due("again", RuleRounds.FULL, x.step());
        Checks.due("rounds", 2, x.rounds());
        Checks.due("nothing came", 0, x.count(3));
        Checks.due("a fact goes", true, x.drop(2, 0, 0, 0));
        Checks.due("300 less 1", 100, x.step());
        Checks.due("the end of stratum 0 again", 0, x.step());
        Checks.due("300 in all", 1, x.step());
        Checks.due("nothing new", 0, x.step());
        Checks.due("done", RuleRounds.DONE, x.step());
        RuleRounds two = Made.relations(1, 2);
        Made.singles(two, 0, 17);
        Made.product(two, 1, 0);
        Checks.due("17 and 289", RuleRounds.FULL, two.step());
        two.drop(0, 16, 0, 0);
        Checks.due("16 and 256", 256, two.step());
    }

    // ---- 11 and 12 ------------------------------------------------------------------------------------

    private static void howManyAreDerived() {
        RuleRounds none = new RuleRounds();
        Checks.due("without relations", 0, none.run());
        RuleRounds bare = Made.relations(1);
        bare.fact(0, 1, 0, 0);
        Checks.due("without rules", 0, bare.run());
        Checks.due("it had its round", 1, bare.rounds());
        Checks.due("all is done", RuleRounds.DONE, bare.step());
        RuleRounds x = Made.relations(2, 2, 2);
        Made.chain(x, 0, 4);
        Made.closure(x, 0, 1);
        x.head(2, X, Y, 0);
        x.item(HOLDS, 1, X, Y, 0);
        x.item(NOT, 0, X, Y, 0);
        x.rule();
        Checks.due("in both strata", 16, x.run());
        Checks.due("rounds", 7, x.rounds());
        Checks.due("when all is done", 16, x.run());
        Checks.due("there are no more rounds", 7, x.rounds());
        x.fact(1, 0, 4, 0);
        x.step();
        Checks.due("behind a step, one of them given", 15, x.run());
        Checks.due("all is done", RuleRounds.DONE, x.step());
        Checks.due("300 in all", 100, full(0).run());
        manyRounds();
    }

    /** One tuple in each round: more rounds than a relation of one column could ever need. */
    private static void manyRounds() {
        RuleRounds x = Made.relations(2, 2);
        Made.chain(x, 0, 63);
        for (int side = 0; side < 3; side++) {
            x.head(1, side, Y, 0);
            x.item(HOLDS, 1, side, X, 0);
            x.item(HOLDS, 0, X, Y, 0);
            x.rule();
            x.head(1, side + 1, 0, 0);
            x.item(HOLDS, 1, side, 63, 0);
            x.rule();
        }
        x.head(1, 3, Y, 0);
        x.item(HOLDS, 1, 3, X, 0);
        x.item(HOLDS, 0, X, Y, 0);
        x.item(Made.LESS, 0, Y, 44, 0);
        x.rule();
        x.fact(1, 0, 0, 0);
        Checks.due("with 64 facts", 235, x.run());
        Checks.due("a round for each, and one", 236, x.rounds());
        Checks.due("the last one's round", 235, x.tuple(1, 235, 3));
    }

    private static void runOfACycle() {
        RuleRounds x = cycle();
        Checks.due("run", RuleRounds.CYCLE, x.run());
        Checks.due("again", RuleRounds.CYCLE, x.run());
        Checks.due("no round", 0, x.rounds());
        Checks.due("nothing is derived", 0, x.count(3));
        x.fact(2, 9, 0, 0);
        Checks.due("with a fact more", RuleRounds.CYCLE, x.run());
        Checks.due("which is there", 2, x.count(2));
    }

    private static void runIsFull() {
        RuleRounds x = full(1);
        Checks.due("301", RuleRounds.FULL, x.run());
        Checks.due("what came before stays", 100, x.count(1));
        Checks.due("in two rounds", 2, x.rounds());
        Checks.due("nothing of the full one", 0, x.count(3));
        Checks.due("again", RuleRounds.FULL, x.run());
        Checks.due("as for step", RuleRounds.FULL, x.step());
        Checks.due("two rounds still", 2, x.rounds());
        x.drop(2, 0, 0, 0);
        Checks.due("a fact less", 101, x.run());
        x.fact(2, 0, 0, 0);
        Checks.due("a fact more", RuleRounds.FULL, x.run());
        RuleRounds first = Made.relations(1, 2);
        Made.singles(first, 0, 64);
        Made.product(first, 1, 0);
        Checks.due("in the first round", RuleRounds.FULL, first.run());
        Checks.due("no round", 0, first.rounds());
    }

    private static void roundsSinceDerivingBegan() {
        RuleRounds x = Made.relations(2, 2);
        Checks.due("none yet", 0, x.rounds());
        Made.chain(x, 0, 3);
        Made.closure(x, 0, 1);
        for (int round = 1; round <= 4; round++) {
            x.step();
            Checks.due("rounds", round, x.rounds());
        }
        x.step();
        Checks.due("DONE is none", 4, x.rounds());
        x.run();
        Checks.due("nor is a run of none", 4, x.rounds());
        x.fact(0, 50, 51, 0);
        Checks.due("a fact", 0, x.rounds());
        x.run();
        x.drop(0, 50, 51, 0);
        Checks.due("a fact goes", 0, x.rounds());
        x.run();
        x.relation(1);
        Checks.due("a relation", 0, x.rounds());
        x.run();
        Made.copyPairs(x, 1, 0);
        Checks.due("a rule", 0, x.rounds());
        x.run();
        Checks.due("and again", 4, x.rounds());
        x.head(1, 0, 0, 0);
        x.item(NOT, 1, 0, 0, 0);
        x.rule();
        x.run();
        Checks.due("a cycle", 0, x.rounds());
    }
}
