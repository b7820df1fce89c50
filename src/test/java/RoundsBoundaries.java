import java.util.function.Consumer;

/** The terms of strata, rounds and what is there: a method for each sentence. */
final class RoundsBoundaries {
    private static final int HOLDS = Made.HOLDS;
    private static final int NOT = Made.NOT;
    private static final int LESS = Made.LESS;
    private static final int OTHER = Made.OTHER;
    private static final int X = Made.X;
    private static final int Y = Made.Y;

    private RoundsBoundaries() {
    }

    static void all() {
        holds("STRATA are the least numbers 0, 1, .. of relations so that the head's relation of each rule has one "
                + "not below that of any HOLDS, and above that of any NOT.", RoundsBoundaries::strataAreLeast);
        holds("If there are none there is a CYCLE.", RoundsBoundaries::noneIsACycle);
        holds("DERIVING goes in ROUNDS, numbered 1, 2, ..", RoundsBoundaries::roundsAreNumberedFrom1);
        holds("It begins with stratum 0.", RoundsBoundaries::beginsWithStratum0);
        holds("A round finds all that follows by rules whose head's relation is in the stratum at hand,",
                RoundsBoundaries::allOfTheStratumAtHand);
        holds("by the tuples that were there before it;", RoundsBoundaries::byWhatWasThereBefore);
        holds("what is new comes.", RoundsBoundaries::whatIsNewComes);
        holds("If nothing is new (that round has a number, too: 0 came in it) the next stratum is at hand;",
                RoundsBoundaries::nothingNewHasANumber);
        holds("behind the last one all is DONE.", RoundsBoundaries::behindTheLastAllIsDone);
        holds("A derived tuple has the ROUND in which it came, and the least RULE by which it followed in that;",
                RoundsBoundaries::roundAndLeastRule);
        holds("a fact has 0 and NONE.", RoundsBoundaries::factHas0AndNone);
        holds("At most 300 tuples are there.", RoundsBoundaries::atMost300);
        holds("If more would be behind a round, nothing of it comes,", RoundsBoundaries::nothingOfAFullRoundComes);
        holds("it has no number,", RoundsBoundaries::fullRoundHasNoNumber);
        holds("and the stratum stays (FULL).", RoundsBoundaries::stratumStays);
        holds("When a fact, a relation or a rule comes, or a fact goes, all derived tuples go, and deriving begins "
                + "anew.", RoundsBoundaries::derivingBeginsAnew);
    }

    private static void holds(String words, Runnable test) {
        Sentence.holds("Terms", words, test);
    }

    // ---- strata ---------------------------------------------------------------------------------------

    private static void strataAreLeast() {
        RuleRounds x = Made.relations(1, 1, 1, 1);
        for (int relation = 0; relation < 4; relation++) {
            Checks.due("without rules", 0, x.stratum(relation));
        }
        Made.rule(x, 1, HOLDS, 0, HOLDS, 0);
        Checks.due("not below a HOLDS, nor above it", 0, x.stratum(1));
        Made.rule(x, 2, HOLDS, 0, NOT, 1);
        Checks.due("above a NOT, by one", 1, x.stratum(2));
        Made.rule(x, 3, HOLDS, 0, HOLDS, 2);
        Checks.due("not below a HOLDS of stratum 1", 1, x.stratum(3));
        Made.rule(x, 3, HOLDS, 2, NOT, 1);
        Checks.due("nor by a NOT of stratum 0", 1, x.stratum(3));
        Made.rule(x, 3, HOLDS, 0, NOT, 2);
        Checks.due("by the greater of two rules", 2, x.stratum(3));
        Checks.due("the others stay", 0, x.stratum(0) + x.stratum(1));
        x.head(1, 1, 0, 0);
        x.item(LESS, 0, 1, 2, 0);
        x.item(OTHER, 0, 1, 2, 0);
        x.rule();
        Checks.due("LESS and OTHER are of no relation", 0, x.stratum(1));
        Made.rule(x, 0, HOLDS, 0, HOLDS, 0);
        Checks.due("HOLDS of itself", 0, x.stratum(0));
        tallest(true);
        tallest(false);
    }

    /** A chain of NOTs through all 12 relations, its rules from below or from above. */
    private static void tallest(boolean fromBelow) {
        RuleRounds x = Made.relations(1, 1, 1, 1, 1, 1, 1, 1, 1, 1, 1, 1);
        for (int i = 0; i < 11; i++) {
            int below = fromBelow ? i : 10 - i;
            Made.rule(x, below + 1, HOLDS, 0, NOT, below);
        }
        for (int relation = 0; relation < 12; relation++) {
            Checks.due("in a chain of 12", relation, x.stratum(relation));
        }
        Made.rule(x, 0, HOLDS, 0, HOLDS, 0);
        Checks.due("the top", 11, x.stratum(11));
    }

    private static void noneIsACycle() {
        RuleRounds self = Made.relations(1, 1);
        Made.rule(self, 1, HOLDS, 1, NOT, 1);
        isACycle("a NOT of itself", self);
        RuleRounds two = Made.relations(1, 1);
        Made.rule(two, 0, HOLDS, 1, NOT, 1);
        Checks.due("a NOT", 2, two.strata());
        Made.rule(two, 1, HOLDS, 0, HOLDS, 0);
        isACycle("and a HOLDS back", two);
        for (int kind = HOLDS; kind <= NOT; kind++) {
            RuleRounds ring = Made.relations(1, 1, 1, 1, 1, 1, 1, 1, 1, 1, 1, 1);
            for (int i = 0; i < 11; i++) {
                ring.head(i + 1, 1, 0, 0);
                ring.item(kind, i, 1, 0, 0);
                ring.rule();
            }
            Checks.due("a chain of 12", kind == HOLDS ? 1 : 12, ring.strata());
            ring.head(0, 1, 0, 0);
            ring.item(1 - kind, 11, 1, 0, 0);
            ring.rule();
            isACycle("a ring of 12", ring);
        }
        RuleRounds holdsOnly = Made.relations(1, 1);
        Made.rule(holdsOnly, 0, HOLDS, 1, HOLDS, 0);
        Made.rule(holdsOnly, 1, HOLDS, 0, HOLDS, 1);
        Checks.due("a ring of HOLDS is none", 1, holdsOnly.strata());
    }

    private static void isACycle(String what, RuleRounds x) {
        Checks.due(what + ", strata", RuleRounds.CYCLE, x.strata());
        Checks.due(what + ", step", RuleRounds.CYCLE, x.step());
        Checks.due(what + ", run", RuleRounds.CYCLE, x.run());
        Checks.state(what + ", stratum", () -> x.stratum(0));
    }

    // ---- rounds ---------------------------------------------------------------------------------------

    /** Relation 1 is as 0, 2 as 1, both in stratum 0; relation 3 is 50, and 0 where 1 is not, in stratum 1. */
    private static RuleRounds twoStrata() {
        RuleRounds x = Made.relations(1, 1, 1, 1);
        Made.rule(x, 3, HOLDS, 0, NOT, 1);
        Made.copy(x, 2, 1);
        Made.copy(x, 1, 0);
        Made.always(x, 3, 50);
        x.fact(0, 7, 0, 0);
        return x;
    }

    private static void roundsAreNumberedFrom1() {
        RuleRounds x = twoStrata();
        Checks.due("before the first", 0, x.rounds());
        x.step();
        Checks.due("the first", 1, x.rounds());
        Checks.due("what came in it", 1, x.tuple(1, 0, 3));
        x.step();
        Checks.due("the second", 2, x.rounds());
        Checks.due("what came in that", 2, x.tuple(2, 0, 3));
        x.step();
        x.step();
        Checks.due("one stratum goes on behind the other", 4, x.tuple(3, 0, 3));
        x.fact(0, 8, 0, 0);
        x.step();
        Checks.due("anew from 1", 1, x.tuple(1, 0, 3));
    }

    private static void beginsWithStratum0() {
        RuleRounds x = twoStrata();
        Checks.due("strata", 2, x.strata());
        Checks.due("the first round", 1, x.step());
        Checks.due("brings what is in stratum 0", 1, x.count(1));
        Checks.due("and nothing above, though it follows", 0, x.count(3));
        RuleRounds empty = Made.relations(1, 1);
        empty.fact(0, 1, 0, 0);
        empty.head(1, 5, 0, 0);
        empty.item(NOT, 0, 9, 0, 0);
        empty.rule();
        Checks.due("a stratum 0 without rules", 0, empty.step());
        Checks.due("then stratum 1", 1, empty.step());
        empty.fact(0, 2, 0, 0);
        Checks.due("anew with stratum 0", 0, empty.step());
        Checks.due("then stratum 1 again", 1, empty.step());
    }

    private static void allOfTheStratumAtHand() {
        RuleRounds x = Made.relations(1, 2, 1);
        Made.singles(x, 0, 14);
        for (int i = 0; i < 22; i++) {
            Made.always(x, 2, 40 + i);
        }
        Made.product(x, 1, 0);
        Made.rule(x, 2, HOLDS, 0, HOLDS, 0);
        Checks.due("all matches of 24 rules", 196 + 22 + 14, x.step());
        RuleRounds two = twoStrata();
        two.fact(2, 9, 0, 0);
        Checks.due("stratum 0, round 1", 1, two.step());
        Checks.due("stratum 0, round 2", 1, two.step());
        Checks.due("stratum 0, nothing new", 0, two.step());
        Checks.due("nothing of stratum 1 yet", 0, two.count(3));
        Checks.due("stratum 1", 1, two.step());
    }

    private static void byWhatWasThereBefore() {
        for (int order = 0; order < 2; order++) {
            RuleRounds x = Made.relations(1, 1, 1, 1);
            for (int i = 0; i < 3; i++) {
                int from = order == 0 ? i : 2 - i;
                Made.copy(x, from + 1, from);
            }
            x.fact(0, 63, 0, 0);
            for (int round = 1; round <= 3; round++) {
                Checks.due("round " + round, 1, x.step());
                Checks.due("brings", true, x.has(round, 63, 0, 0));
            }
            Checks.due("round 4", 0, x.step());
        }
        RuleRounds same = Made.relations(2);
        Made.chain(same, 0, 8);
        same.head(0, X, Y, 0);
        same.item(HOLDS, 0, X, 70, 0);
        same.item(HOLDS, 0, 70, Y, 0);
        same.rule();
        Checks.due("ways of length 2", 7, same.step());
        Checks.due("of length 3 and 4", 11, same.step());
        Checks.due("of length 5 to 8", 10, same.step());
        Checks.due("no more", 0, same.step());
    }

    private static void whatIsNewComes() {
        RuleRounds x = Made.relations(1, 1);
        Made.singles(x, 0, 3);
        x.fact(1, 0, 0, 0);
        Made.copy(x, 1, 0);
        Made.copy(x, 1, 0);
        Made.copy(x, 0, 1);
        Checks.due("of three one is a fact, two follow by two rules each", 2, x.step());
        Checks.due("each is there once", 3, x.count(1));
        Checks.due("what is there does not come again", 0, x.step());
        Checks.due("nor change", 1, x.tuple(1, 2, 3));
        Checks.due("the fact is one still", 0, x.tuple(1, 0, 3));
    }

    private static void nothingNewHasANumber() {
        RuleRounds bare = Made.relations(1);
        Checks.due("without rules 0 come", 0, bare.step());
        Checks.due("its number", 1, bare.rounds());
        RuleRounds x = Made.relations(1, 1, 1);
        x.fact(0, 4, 0, 0);
        Made.rule(x, 1, HOLDS, 2, NOT, 0);
        Made.rule(x, 2, HOLDS, 0, HOLDS, 1);
        Checks.due("two strata", 2, x.strata());
        Checks.due("nothing in stratum 0", 0, x.step());
        Checks.due("round 1", 1, x.rounds());
        Checks.due("nothing in stratum 1", 0, x.step());
        Checks.due("round 2", 2, x.rounds());
        Made.always(x, 2, 9);
        x.run();
        Checks.due("a tuple behind an empty stratum came in round 2", 2, x.tuple(2, 0, 3));
        Checks.due("the one by it in round 3", 3, x.tuple(1, 0, 3));
        Checks.due("and an empty one behind", 4, x.rounds());
    }

    private static void behindTheLastAllIsDone() {
        RuleRounds none = new RuleRounds();
        Checks.due("no strata", RuleRounds.DONE, none.step());
        RuleRounds x = Made.relations(1, 1, 1, 1, 1, 1, 1, 1, 1, 1, 1, 1);
        for (int i = 0; i < 11; i++) {
            x.head(i + 1, i, 0, 0);
            x.item(NOT, i, 63, 0, 0);
            x.rule();
        }
        Checks.due("stratum 0", 0, x.step());
        for (int stratum = 1; stratum < 12; stratum++) {
            Checks.due("what comes in stratum " + stratum, 1, x.step());
            Checks.due("the end of stratum " + stratum, 0, x.step());
        }
        Checks.due("behind 12 strata", RuleRounds.DONE, x.step());
        Checks.due("and still", RuleRounds.DONE, x.step());
        Checks.due("rounds", 23, x.rounds());
    }

    private static void roundAndLeastRule() {
        RuleRounds x = Made.relations(1, 1, 1);
        x.fact(0, 5, 0, 0);
        x.fact(0, 6, 0, 0);
        Made.copy(x, 2, 1);
        for (int rule = 1; rule < 22; rule++) {
            x.head(2, 40 + rule, 0, 0);
            x.item(HOLDS, 2, 63, 0, 0);
            x.rule();
        }
        Made.copy(x, 1, 0);
        x.head(2, X, 0, 0);
        x.item(HOLDS, 0, X, 0, 0);
        x.item(OTHER, 0, X, 6, 0);
        Checks.due("the last rule", 23, x.rule());
        x.run();
        Checks.due("round of what came first by rule 23", 1, x.tuple(2, 0, 3));
        Checks.due("its rule is not the lesser one of round 2", 23, x.tuple(2, 0, 4));
        Checks.due("round of what came by rule 0", 2, x.tuple(2, 1, 3));
        Checks.due("its rule", 0, x.tuple(2, 1, 4));
        RuleRounds y = Made.relations(1, 1);
        y.fact(0, 5, 0, 0);
        for (int rule = 0; rule < 24; rule++) {
            y.head(1, rule < 4 ? rule : X, 0, 0);
            y.item(HOLDS, 0, X, 0, 0);
            y.rule();
        }
        y.run();
        Checks.due("the least of 20 in one round", 4, y.tuple(1, 4, 4));
        Checks.due("value of that", 5, y.tuple(1, 4, 0));
    }

    private static void factHas0AndNone() {
        RuleRounds x = Made.relations(1, 1);
        Made.copy(x, 1, 0);
        Made.copy(x, 0, 1);
        x.fact(0, 1, 0, 0);
        x.run();
        x.fact(1, 1, 0, 0);
        for (int time = 0; time < 2; time++) {
            for (int relation = 0; relation < 2; relation++) {
                Checks.due("round", 0, x.tuple(relation, 0, 3));
                Checks.due("rule", RuleRounds.NONE, x.tuple(relation, 0, 4));
            }
            Checks.due("nothing is derived, though all follows", 0, x.run());
        }
    }

    // ---- 300 tuples -----------------------------------------------------------------------------------

    /** So many facts, and 100 tuples more that follow in the first round. */
    private static RuleRounds hundredMoreThan(int facts) {
        RuleRounds x = Made.relations(1, 2, 2, 1);
        Made.singles(x, 0, 10);
        Made.pairs(x, 2, facts - 10);
        Made.product(x, 1, 0);
        return x;
    }

    private static void atMost300() {
        RuleRounds x = hundredMoreThan(200);
        Checks.due("300 are there", 100, x.step());
        Checks.due("nothing more", 0, x.step());
        Checks.due("done", RuleRounds.DONE, x.step());
        Checks.due("all derived", 100, x.run());
        Checks.due("all there", 300, x.count(0) + x.count(1) + x.count(2));
        Made.product(x, 1, 0);
        Checks.due("what follows by two rules is there once", 100, x.run());
        Made.always(x, 3, 0);
        Checks.due("301 are too many", RuleRounds.FULL, x.step());
        Checks.due("the facts alone are there", 200, x.count(0) + x.count(1) + x.count(2) + x.count(3));
        Checks.due("run", RuleRounds.FULL, x.run());
        x.drop(2, 0, 0, 0);
        Checks.due("300 again", 101, x.run());
        Checks.due("all there again", 300, x.count(0) + x.count(1) + x.count(2) + x.count(3));
        x.head(2, X, Y, 0);
        x.item(HOLDS, 2, X, Y, 0);
        x.rule();
        Checks.due("a fact that follows is there once", 101, x.run());
    }

    private static void nothingOfAFullRoundComes() {
        RuleRounds x = hundredMoreThan(200);
        x.head(3, X, 0, 0);
        x.item(HOLDS, 0, X, 0, 0);
        x.item(HOLDS, 1, X, X, 0);
        x.rule();
        Checks.due("300 are fine", 100, x.step());
        Checks.due("ten more are not", RuleRounds.FULL, x.step());
        Checks.due("none of the ten is there", 0, x.count(3));
        Checks.due("what came before stays", 100, x.count(1));
        Checks.due("its round", 1, x.tuple(1, 99, 3));
        RuleRounds first = Made.relations(1, 2);
        Made.singles(first, 0, 64);
        Made.product(first, 1, 0);
        Checks.due("4096 are too many", RuleRounds.FULL, first.step());
        Checks.due("none of them is there", 0, first.count(1));
        Checks.due("has", false, first.has(1, 0, 0, 0));
        Checks.due("like", 0, first.like(1, X, Y, 0));
        Checks.argument("tuple", () -> first.tuple(1, 0, 0));
        Checks.due("the facts are", 64, first.count(0));
    }

    private static void fullRoundHasNoNumber() {
        RuleRounds x = hundredMoreThan(200);
        x.head(3, 1, 0, 0);
        x.item(HOLDS, 1, 9, 9, 0);
        x.rule();
        x.step();
        Checks.due("round 1", 1, x.rounds());
        Checks.due("full", RuleRounds.FULL, x.step());
        Checks.due("still 1", 1, x.rounds());
        Checks.due("full by run", RuleRounds.FULL, x.run());
        Checks.due("and still 1", 1, x.rounds());
        RuleRounds first = hundredMoreThan(199);
        Made.always(first, 3, 0);
        Made.always(first, 3, 1);
        Checks.due("the first is full", RuleRounds.FULL, first.step());
        Checks.due("no round yet", 0, first.rounds());
    }

    private static void stratumStays() {
        RuleRounds x = hundredMoreThan(200);
        x.head(3, X, 0, 0);
        x.item(HOLDS, 0, X, 0, 0);
        x.item(NOT, 1, X, 63, 0);
        x.rule();
        Checks.due("two strata", 2, x.strata());
        Checks.due("stratum 0", 100, x.step());
        Checks.due("its end", 0, x.step());
        for (int time = 0; time < 3; time++) {
            Checks.due("stratum 1 is full and stays", RuleRounds.FULL, x.step());
        }
        Checks.due("rounds", 2, x.rounds());
        RuleRounds below = hundredMoreThan(200);
        Made.always(below, 0, 63);
        below.head(3, 5, 0, 0);
        below.item(NOT, 1, 0, 63, 0);
        below.rule();
        for (int time = 0; time < 3; time++) {
            Checks.due("stratum 0 is full and stays", RuleRounds.FULL, below.step());
        }
        Checks.due("stratum 1 is never at hand", false, below.has(3, 5, 0, 0));
        Checks.due("run", RuleRounds.FULL, below.run());
    }

    // ---- anew -----------------------------------------------------------------------------------------

    private static void derivingBeginsAnew() {
        anew("a fact comes", x -> x.fact(2, 9, 0, 0));
        anew("a derived tuple comes as a fact", x -> x.fact(1, 0, 0, 0));
        anew("a relation comes", x -> x.relation(1));
        anew("a rule comes", x -> Made.copy(x, 2, 2));
        anew("a rule comes that is there", x -> Made.copy(x, 1, 0));
        anew("a fact goes", x -> x.drop(0, 0, 0, 0));
        anew("a fact goes that leads to nothing", x -> x.drop(2, 63, 0, 0));
        stays("a fact is given again", x -> x.fact(0, 0, 0, 0));
        stays("what is no fact is dropped", x -> x.drop(0, 63, 0, 0));
        stays("a derived tuple is dropped", x -> x.drop(1, 0, 0, 0));
        stays("a head", x -> x.head(1, 0, 0, 0));
        stays("a rule that is UNSAFE", RoundsBoundaries::unsafe);
        stays("a question", x -> x.matches(0));
        RuleRounds full = hundredMoreThan(200);
        Made.always(full, 3, 0);
        Checks.due("full", RuleRounds.FULL, full.run());
        full.drop(2, 0, 1, 0);
        Checks.due("a fact goes when all is full", 101, full.run());
        RuleRounds kept = derived();
        Made.rule(kept, 1, HOLDS, 0, NOT, 1);
        Checks.due("the rule of a cycle comes: derived tuples", 0, kept.count(1));
        Checks.due("and rounds", 0, kept.rounds());
    }

    private static void unsafe(RuleRounds x) {
        x.head(1, X, 0, 0);
        x.rule();
    }

    private static RuleRounds derived() {
        RuleRounds x = Made.relations(1, 1, 1);
        Made.singles(x, 0, 3);
        x.fact(2, 63, 0, 0);
        Made.copy(x, 1, 0);
        x.run();
        return x;
    }

    private static void anew(String what, Consumer<RuleRounds> change) {
        RuleRounds x = derived();
        Checks.due("rounds before " + what, 2, x.rounds());
        change.accept(x);
        Checks.due("rounds when " + what, 0, x.rounds());
        int derived = 0;
        for (int place = 0; place < x.count(1); place++) {
            derived += x.tuple(1, place, 3) > 0 ? 1 : 0;
        }
        Checks.due("derived tuples when " + what, 0, derived);
        Checks.due("a round when " + what, true, x.step() > 0);
        Checks.due("its number when " + what, 1, x.rounds());
    }

    private static void stays(String what, Consumer<RuleRounds> change) {
        RuleRounds x = derived();
        change.accept(x);
        Checks.due("rounds when " + what, 2, x.rounds());
        Checks.due("derived tuples when " + what, 3, x.count(1));
        Checks.due("no more rounds when " + what, RuleRounds.DONE, x.step());
    }
}
