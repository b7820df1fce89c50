/** The promises 1 to 17, a method each: ordinary inputs, the edges that the document names, and wrong inputs. */
public final class PromiseTest {
    private static final int HOLDS = Made.HOLDS;
    private static final int NOT = Made.NOT;
    private static final int LESS = Made.LESS;
    private static final int OTHER = Made.OTHER;
    private static final int X = Made.X;
    private static final int Y = Made.Y;
    private static final int Z = Made.Z;
    private static final int LAST = Made.LAST;

    public static void main(String[] args) {
        promise1NewObject();
        promise2Relation();
        promise3Fact();
        promise4Drop();
        promise5Head();
        promise6Item();
        promise6ItemLimits();
        promise7Rule();
        promise7RuleSafety();
        promise8Strata();
        promise9Stratum();
        promise10Step();
        promise10StepFull();
        promise11Run();
        promise12Rounds();
        promise13Count();
        promise14Has();
        promise15Tuple();
        promise15TupleRoundAndRule();
        promise16Like();
        promise17Matches();
        whatTakesDerivedTuplesAway();
        whatLeavesDerivedTuples();
        largeRulesEnd();
        Checks.end();
    }

    // ---- 1 to 4: what is given ------------------------------------------------------------------------

    private static void promise1NewObject() {
        RuleRounds x = new RuleRounds();
        Checks.due("1 strata", 0, x.strata());
        Checks.due("1 rounds", 0, x.rounds());
        Checks.due("1 step", RuleRounds.DONE, x.step());
        Checks.due("1 run", 0, x.run());
        Checks.due("1 rounds behind run", 0, x.rounds());
        Checks.argument("1 no relation", () -> x.count(0));
        Checks.argument("1 no rule", () -> x.matches(0));
        Checks.state("1 no head", () -> x.rule());
        Checks.due("1 another object", 0, new RuleRounds().relation(1));
        Checks.due("1 first relation", 0, x.relation(3));
    }

    private static void promise2Relation() {
        RuleRounds x = new RuleRounds();
        Checks.argument("2 columns 0", () -> x.relation(0));
        Checks.argument("2 columns 4", () -> x.relation(4));
        Checks.argument("2 columns -1", () -> x.relation(-1));
        Checks.argument("2 columns least", () -> x.relation(Integer.MIN_VALUE));
        Checks.argument("2 columns greatest", () -> x.relation(Integer.MAX_VALUE));
        for (int i = 0; i < 12; i++) {
            Checks.due("2 number", i, x.relation(1 + i % 3));
        }
        Checks.state("2 a thirteenth", () -> x.relation(1));
        Checks.argument("2 argument ahead of state", () -> x.relation(4));
        Checks.due("2 three columns", true, x.fact(11, 1, 2, 3));
        Checks.argument("2 one column", () -> x.fact(9, 1, 2, 0));
        Checks.argument("2 no relation 12", () -> x.count(12));
    }

    private static void promise3Fact() {
        RuleRounds x = Made.relations(1, 2, 3);
        Checks.due("3 new", true, x.fact(0, 63, 0, 0));
        Checks.due("3 not new", false, x.fact(0, 63, 0, 0));
        Checks.due("3 the same numbers elsewhere", true, x.fact(1, 63, 0, 0));
        Checks.due("3 three columns", true, x.fact(2, 0, 0, 63));
        Checks.due("3 least", true, x.fact(0, 0, 0, 0));
        Checks.argument("3 relation -1", () -> x.fact(-1, 0, 0, 0));
        Checks.argument("3 relation 3", () -> x.fact(3, 0, 0, 0));
        Checks.argument("3 a is 64", () -> x.fact(0, 64, 0, 0));
        Checks.argument("3 a is -1", () -> x.fact(0, -1, 0, 0));
        Checks.argument("3 b does not count", () -> x.fact(0, 1, 1, 0));
        Checks.argument("3 c does not count", () -> x.fact(0, 1, 0, 1));
        Checks.argument("3 b is 64", () -> x.fact(1, 1, 64, 0));
        Checks.argument("3 b is -1", () -> x.fact(1, 1, -1, 0));
        Checks.argument("3 c does not count in two", () -> x.fact(1, 1, 1, 1));
        Checks.argument("3 c is 64", () -> x.fact(2, 1, 1, 64));
        Checks.argument("3 c is -1", () -> x.fact(2, 1, 1, -1));
        Checks.due("3 nothing wrong came", 4, x.count(0) + x.count(1) + x.count(2));
        for (int i = 4; i < 200; i++) {
            Checks.due("3 fact " + i, true, x.fact(2, 1 + i / 64, i % 64, 7));
        }
        Checks.due("3 one of 200 again", false, x.fact(0, 63, 0, 0));
        Checks.state("3 one more than 200", () -> x.fact(0, 1, 0, 0));
        Checks.argument("3 argument ahead of state", () -> x.fact(0, 64, 0, 0));
        Checks.due("3 the 201st is not there", false, x.has(0, 1, 0, 0));
        Checks.due("3 one goes", true, x.drop(0, 63, 0, 0));
        Checks.due("3 there is room again", true, x.fact(0, 1, 0, 0));
        Checks.state("3 and no more", () -> x.fact(0, 2, 0, 0));
        derivedTupleAsFact();
    }

    private static void derivedTupleAsFact() {
        RuleRounds x = Made.relations(1, 1);
        x.fact(0, 5, 0, 0);
        Made.copy(x, 1, 0);
        Checks.due("3 derived", 1, x.run());
        Checks.due("3 a derived tuple is new among facts", true, x.fact(1, 5, 0, 0));
        Checks.due("3 it is one tuple", 1, x.count(1));
        Checks.due("3 it is a fact", 0, x.tuple(1, 0, 3));
        Checks.due("3 a fact has no rule", RuleRounds.NONE, x.tuple(1, 0, 4));
        Checks.due("3 nothing is derived now", 0, x.run());
        Checks.due("3 still a fact", 0, x.tuple(1, 0, 3));
    }

    private static void promise4Drop() {
        RuleRounds x = Made.relations(1, 1, 3);
        Made.copy(x, 1, 0);
        x.fact(0, 5, 0, 0);
        x.fact(2, 1, 2, 3);
        x.fact(2, 1, 2, 4);
        Checks.due("4 was none", false, x.drop(0, 6, 0, 0));
        Checks.due("4 derived", 1, x.run());
        Checks.due("4 a derived tuple is no fact", false, x.drop(1, 5, 0, 0));
        Checks.due("4 it stays", true, x.has(1, 5, 0, 0));
        Checks.due("4 one of two", true, x.drop(2, 1, 2, 3));
        Checks.due("4 gone", false, x.has(2, 1, 2, 3));
        Checks.due("4 the other stays", true, x.has(2, 1, 2, 4));
        Checks.due("4 twice", false, x.drop(2, 1, 2, 3));
        Checks.due("4 what it led to", true, x.drop(0, 5, 0, 0));
        Checks.due("4 nothing follows", 0, x.run());
        Checks.argument("4 relation -1", () -> x.drop(-1, 0, 0, 0));
        Checks.argument("4 relation 3", () -> x.drop(3, 0, 0, 0));
        Checks.argument("4 a is 64", () -> x.drop(0, 64, 0, 0));
        Checks.argument("4 b does not count", () -> x.drop(0, 1, 1, 0));
        Checks.argument("4 c is -1", () -> x.drop(2, 1, 1, -1));
        factThatIsDerivedToo();
    }

    private static void factThatIsDerivedToo() {
        RuleRounds x = Made.relations(1, 1);
        Made.copy(x, 1, 0);
        x.fact(0, 5, 0, 0);
        x.fact(1, 5, 0, 0);
        Checks.due("4 all is given", 0, x.run());
        Checks.due("4 the given one goes", true, x.drop(1, 5, 0, 0));
        Checks.due("4 and is not there", false, x.has(1, 5, 0, 0));
        Checks.due("4 until it is derived", 1, x.run());
        Checks.due("4 in round 1", 1, x.tuple(1, 0, 3));
    }

    // ---- 5 to 7: rules --------------------------------------------------------------------------------

    private static void promise5Head() {
        RuleRounds x = Made.relations(1, 2, 3);
        Checks.argument("5 relation -1", () -> x.head(-1, 0, 0, 0));
        Checks.argument("5 relation 3", () -> x.head(3, 0, 0, 0));
        Checks.argument("5 a is 72", () -> x.head(0, 72, 0, 0));
        Checks.argument("5 a is -1", () -> x.head(0, -1, 0, 0));
        Checks.argument("5 b does not count", () -> x.head(0, X, Y, 0));
        Checks.argument("5 c does not count", () -> x.head(1, X, Y, 1));
        Checks.argument("5 b is 72", () -> x.head(1, X, 72, 0));
        Checks.argument("5 c is 72", () -> x.head(2, X, Y, 72));
        Checks.state("5 none of these is told", () -> x.rule());
        x.head(2, LAST, 63, 0);
        Checks.due("5 one item", 1, x.item(HOLDS, 0, LAST, 0, 0));
        Checks.argument("5 a wrong head", () -> x.head(0, 72, 0, 0));
        Checks.due("5 leaves the rule in the making", 2, x.item(OTHER, 0, LAST, 3, 0));
        x.head(1, 7, 8, 0);
        Checks.due("5 a new head, no items", 1, x.item(LESS, 0, 1, 2, 0));
        Checks.due("5 rule", 0, x.rule());
        Checks.due("5 the later head's tuple follows", 1, x.run());
        Checks.due("5 it is there", true, x.has(1, 7, 8, 0));
    }

    private static void promise6Item() {
        RuleRounds x = Made.relations(1, 2, 3);
        Checks.state("6 no head", () -> x.item(HOLDS, 0, X, 0, 0));
        Checks.argument("6 argument ahead of no head", () -> x.item(4, 0, X, 0, 0));
        x.head(0, 1, 0, 0);
        Checks.argument("6 kind 4", () -> x.item(4, 0, 1, 0, 0));
        Checks.argument("6 kind -1", () -> x.item(-1, 0, 1, 0, 0));
        for (int kind = HOLDS; kind <= NOT; kind++) {
            final int k = kind;
            Checks.argument("6 relation 3", () -> x.item(k, 3, 0, 0, 0));
            Checks.argument("6 relation -1", () -> x.item(k, -1, 0, 0, 0));
            Checks.argument("6 a is 72", () -> x.item(k, 0, 72, 0, 0));
            Checks.argument("6 a is -1", () -> x.item(k, 0, -1, 0, 0));
            Checks.argument("6 b does not count", () -> x.item(k, 0, 1, X, 0));
            Checks.argument("6 b is 72", () -> x.item(k, 1, 1, 72, 0));
            Checks.argument("6 c does not count", () -> x.item(k, 1, 1, 1, 1));
            Checks.argument("6 c is 72", () -> x.item(k, 2, 1, 1, 72));
        }
        for (int kind = LESS; kind <= OTHER; kind++) {
            final int k = kind;
            Checks.argument("6 relation is not 0", () -> x.item(k, 1, 1, 2, 0));
            Checks.argument("6 relation is -1", () -> x.item(k, -1, 1, 2, 0));
            Checks.argument("6 c is not 0", () -> x.item(k, 0, 1, 2, 1));
            Checks.argument("6 a is 72", () -> x.item(k, 0, 72, 2, 0));
            Checks.argument("6 b is 72", () -> x.item(k, 0, 1, 72, 0));
            Checks.argument("6 a is -1", () -> x.item(k, 0, -1, 2, 0));
            Checks.argument("6 b is -1", () -> x.item(k, 0, 1, -1, 0));
        }
        Checks.due("6 HOLDS", 1, x.item(HOLDS, 2, X, LAST, 63));
        Checks.due("6 NOT", 2, x.item(NOT, 1, X, 0, 0));
        Checks.due("6 LESS of two, though relation 0 has one column", 3, x.item(LESS, 0, X, LAST, 0));
        Checks.due("6 OTHER", 4, x.item(OTHER, 0, LAST, 63, 0));
        RuleRounds bare = new RuleRounds();
        Checks.argument("6 no such relation ahead of no head", () -> bare.item(HOLDS, 0, 1, 0, 0));
        Checks.state("6 LESS names no relation", () -> bare.item(LESS, 0, 1, 2, 0));
    }

    private static void promise6ItemLimits() {
        RuleRounds x = Made.relations(1);
        x.head(0, X, 0, 0);
        for (int i = 1; i <= 3; i++) {
            Checks.due("6 HOLDS " + i, i, x.item(HOLDS, 0, X, 0, 0));
        }
        Checks.state("6 a fourth HOLDS", () -> x.item(HOLDS, 0, X, 0, 0));
        Checks.argument("6 argument ahead of too many", () -> x.item(HOLDS, 0, 72, 0, 0));
        for (int i = 4; i <= 6; i++) {
            Checks.due("6 item " + i, i, x.item(OTHER, 0, X, i, 0));
        }
        for (int kind = HOLDS; kind <= OTHER; kind++) {
            final int k = kind;
            Checks.state("6 a seventh item", () -> x.item(k, 0, X, 0, 0));
        }
        Checks.due("6 six are fine", 0, x.rule());
        Checks.state("6 no head behind rule", () -> x.item(HOLDS, 0, X, 0, 0));
        x.head(0, X, 0, 0);
        for (int i = 1; i <= 6; i++) {
            Checks.due("6 six without HOLDS", i, x.item(LESS, 0, 1, 2, 0));
        }
        Checks.state("6 a HOLDS as the seventh", () -> x.item(HOLDS, 0, X, 0, 0));
    }

    private static void promise7Rule() {
        RuleRounds x = Made.relations(1);
        Checks.state("7 no head", () -> x.rule());
        for (int i = 0; i < 24; i++) {
            x.head(0, i, 0, 0);
            Checks.due("7 number", i, x.rule());
            Checks.state("7 no head is told", () -> x.rule());
        }
        x.head(0, 24, 0, 0);
        Checks.state("7 a 25th", () -> x.rule());
        x.head(0, X, 0, 0);
        Checks.state("7 state ahead of UNSAFE", () -> x.rule());
        Checks.due("7 it stays in the making", 1, x.item(LESS, 0, 1, 2, 0));
        Checks.due("7 all 24 count", 24, x.run());
        Checks.argument("7 no rule 24", () -> x.matches(24));
    }

    private static void promise7RuleSafety() {
        RuleRounds x = Made.relations(1, 3);
        x.fact(0, 9, 0, 0);
        x.head(0, X, 0, 0);
        Checks.due("7 a head's variable", RuleRounds.UNSAFE, x.rule());
        Checks.due("7 it stays", 1, x.item(NOT, 1, X, 1, 1));
        Checks.due("7 a NOT gives no value", RuleRounds.UNSAFE, x.rule());
        Checks.due("7 HOLDS", 2, x.item(HOLDS, 0, X, 0, 0));
        Checks.due("7 a HOLDS does", 0, x.rule());
        x.head(1, 1, 2, 3);
        x.item(HOLDS, 0, X, 0, 0);
        x.item(NOT, 1, X, 1, Y);
        Checks.due("7 a NOT's variable", RuleRounds.UNSAFE, x.rule());
        x.head(1, 1, 2, 3);
        x.item(LESS, 0, X, 5, 0);
        Checks.due("7 a LESS' variable", RuleRounds.UNSAFE, x.rule());
        x.item(HOLDS, 0, X, 0, 0);
        x.item(OTHER, 0, 5, LAST, 0);
        Checks.due("7 an OTHER's variable", RuleRounds.UNSAFE, x.rule());
        x.item(HOLDS, 1, 1, LAST, 1);
        Checks.due("7 all in a HOLDS", 1, x.rule());
        x.head(1, X, Y, Z);
        x.item(HOLDS, 1, X, Y, 0);
        Checks.due("7 the head's c", RuleRounds.UNSAFE, x.rule());
        RuleRounds kept = Made.relations(1, 1);
        kept.fact(0, 1, 0, 0);
        Made.copy(kept, 1, 0);
        kept.run();
        kept.head(1, X, 0, 0);
        Checks.due("7 UNSAFE", RuleRounds.UNSAFE, kept.rule());
        Checks.due("7 UNSAFE leaves what is derived", 1, kept.count(1));
    }

    // ---- 8 and 9: strata ------------------------------------------------------------------------------

    private static void promise8Strata() {
        RuleRounds x = Made.relations(1, 1, 1);
        Checks.due("8 without rules", 1, x.strata());
        Made.rule(x, 1, HOLDS, 0, NOT, 0);
        Checks.due("8 NOT", 2, x.strata());
        Made.rule(x, 2, HOLDS, 1, HOLDS, 0);
        Checks.due("8 HOLDS", 2, x.strata());
        Made.rule(x, 2, HOLDS, 2, NOT, 1);
        Checks.due("8 a NOT above", 3, x.strata());
        Made.rule(x, 0, HOLDS, 0, HOLDS, 0);
        Checks.due("8 a HOLDS of itself", 3, x.strata());
        Made.rule(x, 0, HOLDS, 2, HOLDS, 2);
        Checks.due("8 a NOT in a ring", RuleRounds.CYCLE, x.strata());
        RuleRounds self = Made.relations(1);
        Made.rule(self, 0, HOLDS, 0, NOT, 0);
        Checks.due("8 a NOT of itself", RuleRounds.CYCLE, self.strata());
        Checks.due("8 a relation more", 1, self.relation(1));
        Checks.due("8 still", RuleRounds.CYCLE, self.strata());
        RuleRounds tall = Made.relations(1, 1, 1, 1, 1, 1, 1, 1, 1, 1, 1, 1);
        for (int i = 0; i < 11; i++) {
            Made.rule(tall, i, HOLDS, 11, NOT, i + 1);
        }
        Checks.due("8 as many as relations", 12, tall.strata());
        Checks.due("8 the top", 11, tall.stratum(0));
        RuleRounds ring = Made.relations(1, 1, 1, 1, 1, 1, 1, 1, 1, 1, 1, 1);
        for (int i = 0; i < 12; i++) {
            Made.rule(ring, i, HOLDS, (i + 1) % 12, HOLDS, (i + 5) % 12);
        }
        Checks.due("8 a ring of HOLDS", 1, ring.strata());
        Made.rule(ring, 7, HOLDS, 7, NOT, 3);
        Checks.due("8 one NOT in it", RuleRounds.CYCLE, ring.strata());
    }

    private static void promise9Stratum() {
        RuleRounds x = Made.relations(1, 1, 1, 1);
        Made.rule(x, 2, HOLDS, 0, NOT, 1);
        Made.rule(x, 3, HOLDS, 2, HOLDS, 0);
        Checks.due("9 no rule", 0, x.stratum(0));
        Checks.due("9 below", 0, x.stratum(1));
        Checks.due("9 above a NOT", 1, x.stratum(2));
        Checks.due("9 not below a HOLDS", 1, x.stratum(3));
        Checks.argument("9 relation -1", () -> x.stratum(-1));
        Checks.argument("9 relation 4", () -> x.stratum(4));
        Made.rule(x, 1, HOLDS, 3, HOLDS, 3);
        Checks.state("9 cycle", () -> x.stratum(0));
        Checks.argument("9 argument ahead of state", () -> x.stratum(4));
        RuleRounds bare = new RuleRounds();
        Checks.argument("9 no relations", () -> bare.stratum(0));
    }

    // ---- 10 to 12: deriving ---------------------------------------------------------------------------

    private static void promise10Step() {
        RuleRounds x = Made.relations(2, 2, 2);
        Made.chain(x, 0, 4);
        Made.closure(x, 0, 1);
        x.head(2, X, Y, 0);
        x.item(HOLDS, 1, X, Y, 0);
        x.item(NOT, 0, X, Y, 0);
        x.rule();
        Checks.due("10 two strata", 2, x.strata());
        Checks.due("10 first round", 4, x.step());
        Checks.due("10 by what was there before it", 0, x.count(2));
        Checks.due("10 second", 3, x.step());
        Checks.due("10 third", 2, x.step());
        Checks.due("10 fourth", 1, x.step());
        Checks.due("10 nothing new", 0, x.step());
        Checks.due("10 the next stratum", 6, x.step());
        Checks.due("10 nothing new there", 0, x.step());
        Checks.due("10 done", RuleRounds.DONE, x.step());
        Checks.due("10 done again", RuleRounds.DONE, x.step());
        Checks.due("10 rounds", 7, x.rounds());
        RuleRounds bare = Made.relations(1);
        Checks.due("10 a round without rules", 0, bare.step());
        Checks.due("10 then done", RuleRounds.DONE, bare.step());
        Checks.due("10 it has a number", 1, bare.rounds());
        Made.rule(bare, 0, HOLDS, 0, NOT, 0);
        Checks.due("10 cycle", RuleRounds.CYCLE, bare.step());
        Checks.due("10 no round", 0, bare.rounds());
        notIsKnownBeforeItIsUsed();
        aLaterTupleMakesTheMatch();
    }

    private static void notIsKnownBeforeItIsUsed() {
        RuleRounds x = Made.relations(1, 1, 1);
        Made.rule(x, 2, HOLDS, 0, NOT, 1);
        Made.copy(x, 1, 0);
        x.fact(0, 3, 0, 0);
        Checks.due("10 relation 1 first, though its rule is the later", 1, x.step());
        Checks.due("10 it is there", true, x.has(1, 3, 0, 0));
        Checks.due("10 end of stratum 0", 0, x.step());
        Checks.due("10 stratum 1", 0, x.step());
        Checks.due("10 so this never follows", false, x.has(2, 3, 0, 0));
        Checks.due("10 done", RuleRounds.DONE, x.step());
    }

    /** The head has its value at once, but only the last tuples of each HOLDS go together. */
    private static void aLaterTupleMakesTheMatch() {
        RuleRounds x = Made.relations(2, 2, 1);
        for (int i = 0; i < 5; i++) {
            x.fact(0, 1, i, 0);
        }
        x.fact(1, 4, 6, 0);
        x.fact(1, 4, 7, 0);
        x.head(2, 9, 0, 0);
        x.item(HOLDS, 0, X, Y, 0);
        x.item(HOLDS, 1, Y, Z, 0);
        x.item(OTHER, 0, Z, 6, 0);
        x.rule();
        Checks.due("10 one match", 1, x.matches(0));
        Checks.due("10 is enough", 1, x.step());
        Checks.due("10 for the head's tuple", true, x.has(2, 9, 0, 0));
    }

    private static void promise10StepFull() {
        RuleRounds x = Made.relations(1, 2, 1);
        for (int i = 0; i < 16; i++) {
            x.fact(0, i, 0, 0);
        }
        for (int i = 0; i < 28; i++) {
            x.fact(2, i, 0, 0);
        }
        x.head(1, X, Y, 0);
        x.item(HOLDS, 0, X, 0, 0);
        x.item(HOLDS, 0, Y, 0, 0);
        x.rule();
        Checks.due("10 300 are fine", 256, x.step());
        Checks.due("10 and nothing more", 0, x.step());
        Checks.due("10 done", RuleRounds.DONE, x.step());
        x.fact(2, 28, 0, 0);
        Checks.due("10 301 are not", RuleRounds.FULL, x.step());
        Checks.due("10 nothing came", 0, x.count(1));
        Checks.due("10 no number", 0, x.rounds());
        Checks.due("10 the stratum stays", RuleRounds.FULL, x.step());
        Checks.due("10 as for run", RuleRounds.FULL, x.run());
        x.drop(2, 0, 0, 0);
        Checks.due("10 one less", 256, x.run());
        fullInALaterRound();
    }

    private static void fullInALaterRound() {
        RuleRounds x = Made.relations(2, 2);
        Made.chain(x, 0, 24);
        Made.closure(x, 0, 1);
        int there = 24;
        int round = 0;
        for (int came = 24; there + came <= 300; came--) {
            round++;
            Checks.due("10 round " + round, came, x.step());
            there += came;
        }
        Checks.due("10 full", RuleRounds.FULL, x.step());
        Checks.due("10 full again", RuleRounds.FULL, x.step());
        Checks.due("10 rounds that were", round, x.rounds());
        Checks.due("10 what came before stays", there - 24, x.count(1));
        Checks.due("10 run", RuleRounds.FULL, x.run());
        Checks.due("10 the same rounds", round, x.rounds());
    }

    private static void promise11Run() {
        RuleRounds x = Made.relations(2, 2);
        Checks.due("11 without rules", 0, x.run());
        Made.chain(x, 0, 5);
        Made.closure(x, 0, 1);
        Checks.due("11 all derived", 15, x.run());
        Checks.due("11 again", 15, x.run());
        Checks.due("11 it is done", RuleRounds.DONE, x.step());
        x.fact(1, 0, 5, 0);
        Checks.due("11 a fact is not derived", 14, x.run());
        x.drop(1, 0, 5, 0);
        Checks.due("11 some rounds by step", 5, x.step());
        Checks.due("11 counts all that are derived", 15, x.run());
        x.head(1, X, Y, 0);
        x.item(HOLDS, 0, X, Y, 0);
        x.item(NOT, 1, X, Y, 0);
        x.rule();
        Checks.due("11 cycle", RuleRounds.CYCLE, x.run());
        Checks.due("11 nothing derived", 0, x.count(1));
        RuleRounds full = Made.relations(1, 2);
        for (int i = 0; i < 18; i++) {
            full.fact(0, i, 0, 0);
        }
        full.head(1, X, Y, 0);
        full.item(HOLDS, 0, X, 0, 0);
        full.item(HOLDS, 0, Y, 0, 0);
        full.rule();
        Checks.due("11 full", RuleRounds.FULL, full.run());
        longRun();
    }

    /** More rounds than values: each tuple comes in a round of its own. */
    private static void longRun() {
        RuleRounds x = Made.relations(2, 2);
        for (int i = 0; i < 63; i++) {
            x.fact(0, i, i + 1, 0);
        }
        x.fact(1, 0, 0, 0);
        for (int side = 0; side < 3; side++) {
            x.head(1, side, Y, 0);
            x.item(HOLDS, 1, side, X, 0);
            x.item(HOLDS, 0, X, Y, 0);
            x.rule();
            x.head(1, side + 1, 0, 0);
            x.item(HOLDS, 1, side, 63, 0);
            x.rule();
        }
        Checks.due("11 three times 64 derived, one a round", 192, x.run());
        Checks.due("11 and a last round", 193, x.rounds());
        Checks.due("11 the last came in", 192, x.tuple(1, 192, 3));
    }

    private static void promise12Rounds() {
        RuleRounds x = Made.relations(2, 2);
        Checks.due("12 none yet", 0, x.rounds());
        Made.chain(x, 0, 3);
        Made.closure(x, 0, 1);
        x.step();
        Checks.due("12 one", 1, x.rounds());
        x.run();
        Checks.due("12 the one with 0 too", 4, x.rounds());
        x.step();
        Checks.due("12 DONE is no round", 4, x.rounds());
        x.fact(0, 1, 2, 0);
        Checks.due("12 no fact came", 4, x.rounds());
        x.fact(0, 7, 7, 0);
        Checks.due("12 deriving begins anew", 0, x.rounds());
    }

    // ---- 13 to 17: what is there ----------------------------------------------------------------------

    private static void promise13Count() {
        RuleRounds x = Made.relations(1, 2, 1);
        x.fact(0, 1, 0, 0);
        x.fact(0, 63, 0, 0);
        x.fact(1, 0, 0, 0);
        Checks.due("13 of 0", 2, x.count(0));
        Checks.due("13 of 1", 1, x.count(1));
        Checks.due("13 of 2", 0, x.count(2));
        Made.copy(x, 2, 0);
        x.fact(2, 1, 0, 0);
        x.run();
        Checks.due("13 facts and derived ones", 2, x.count(2));
        Checks.argument("13 relation -1", () -> x.count(-1));
        Checks.argument("13 relation 3", () -> x.count(3));
    }

    private static void promise14Has() {
        RuleRounds x = Made.relations(1, 2, 3);
        x.fact(0, 0, 0, 0);
        x.fact(2, 63, 63, 63);
        x.fact(2, 1, 2, 3);
        Checks.due("14 least", true, x.has(0, 0, 0, 0));
        Checks.due("14 greatest", true, x.has(2, 63, 63, 63));
        Checks.due("14 not in another relation", false, x.has(1, 0, 0, 0));
        Checks.due("14 another c", false, x.has(2, 1, 2, 4));
        Checks.due("14 another b", false, x.has(2, 1, 3, 3));
        Checks.due("14 another a", false, x.has(2, 2, 2, 3));
        Checks.argument("14 relation -1", () -> x.has(-1, 0, 0, 0));
        Checks.argument("14 relation 3", () -> x.has(3, 0, 0, 0));
        Checks.argument("14 a variable", () -> x.has(0, X, 0, 0));
        Checks.argument("14 b does not count", () -> x.has(0, 0, 1, 0));
        Checks.argument("14 c does not count", () -> x.has(1, 0, 0, 1));
        Checks.argument("14 b is -1", () -> x.has(1, 0, -1, 0));
        Checks.argument("14 c is 64", () -> x.has(2, 0, 0, 64));
    }

    private static void promise15Tuple() {
        RuleRounds x = Made.relations(1, 3, 2);
        x.fact(1, 5, 1, 1);
        x.fact(1, 1, 9, 0);
        x.fact(1, 1, 2, 8);
        x.fact(1, 1, 2, 3);
        x.fact(0, 4, 0, 0);
        int[][] due = {{1, 2, 3}, {1, 2, 8}, {1, 9, 0}, {5, 1, 1}};
        for (int place = 0; place < 4; place++) {
            for (int what = 0; what < 3; what++) {
                Checks.due("15 place " + place, due[place][what], x.tuple(1, place, what));
            }
            Checks.due("15 round of a fact", 0, x.tuple(1, place, 3));
            Checks.due("15 rule of a fact", RuleRounds.NONE, x.tuple(1, place, 4));
        }
        Checks.due("15 one column", 4, x.tuple(0, 0, 0));
        Checks.due("15 what does not count is 0", 0, x.tuple(0, 0, 1));
        Checks.due("15 and c", 0, x.tuple(0, 0, 2));
        Checks.argument("15 place 4", () -> x.tuple(1, 4, 0));
        Checks.argument("15 place 1", () -> x.tuple(0, 1, 0));
        Checks.argument("15 place -1", () -> x.tuple(1, -1, 0));
        Checks.argument("15 place greatest", () -> x.tuple(1, Integer.MAX_VALUE, 0));
        Checks.argument("15 what 5", () -> x.tuple(1, 0, 5));
        Checks.argument("15 what -1", () -> x.tuple(1, 0, -1));
        Checks.argument("15 relation 3", () -> x.tuple(3, 0, 0));
        Checks.argument("15 relation -1", () -> x.tuple(-1, 0, 0));
        Checks.argument("15 no tuples", () -> x.tuple(2, 0, 0));
    }

    private static void promise15TupleRoundAndRule() {
        RuleRounds x = Made.relations(2, 2);
        Made.chain(x, 0, 3);
        x.fact(1, 3, 0, 0);
        x.head(1, X, Z, 0);
        x.item(HOLDS, 0, X, Y, 0);
        x.item(HOLDS, 1, Y, Z, 0);
        x.rule();
        Made.copyPairs(x, 1, 0);
        Made.copyPairs(x, 1, 0);
        x.run();
        Checks.due("15 the least rule of the first round", 1, x.tuple(1, 1, 4));
        Checks.due("15 (0, 1) came in it", 1, x.tuple(1, 1, 3));
        Checks.due("15 (2, 0) came in round 1 by rule 0", 0, x.tuple(1, 7, 4));
        Checks.due("15 round", 1, x.tuple(1, 7, 3));
        Checks.due("15 (2, 3) by rule 1", 1, x.tuple(1, 8, 4));
        Checks.due("15 (0, 0) at last", 3, x.tuple(1, 0, 3));
        Checks.due("15 by rule 0", 0, x.tuple(1, 0, 4));
        Checks.due("15 (0, 2) in round 2", 2, x.tuple(1, 2, 3));
        Checks.due("15 (3, 0) is a fact", 0, x.tuple(1, 9, 3));
        Checks.due("15 without a rule", RuleRounds.NONE, x.tuple(1, 9, 4));
        theRuleOfTheEarlierRound();
    }

    private static void theRuleOfTheEarlierRound() {
        RuleRounds x = Made.relations(1, 1, 1);
        Made.copy(x, 2, 1);
        Made.copy(x, 1, 0);
        Made.copy(x, 2, 0);
        x.fact(0, 4, 0, 0);
        x.run();
        Checks.due("15 rule 2 in round 1, not rule 0 in round 2", 2, x.tuple(2, 0, 4));
        Checks.due("15 round 1", 1, x.tuple(2, 0, 3));
    }

    private static void promise16Like() {
        RuleRounds x = Made.relations(1, 2, 3);
        x.fact(0, 3, 0, 0);
        x.fact(0, 4, 0, 0);
        int[][] given = {{1, 1, 1}, {1, 1, 2}, {1, 2, 1}, {2, 1, 1}, {1, 2, 3}, {2, 2, 63}};
        for (int[] t : given) {
            x.fact(2, t[0], t[1], t[2]);
        }
        Checks.due("16 all of one column", 2, x.like(0, LAST, 0, 0));
        Checks.due("16 a value", 1, x.like(0, 3, 0, 0));
        Checks.due("16 another", 0, x.like(0, 5, 0, 0));
        Checks.due("16 none in the relation", 0, x.like(1, X, Y, 0));
        Checks.due("16 three variables", 6, x.like(2, X, Y, Z));
        Checks.due("16 a first", 4, x.like(2, 1, X, Y));
        Checks.due("16 b in the middle", 3, x.like(2, X, 1, Y));
        Checks.due("16 c last", 3, x.like(2, X, Y, 1));
        Checks.due("16 a and c", 2, x.like(2, 1, X, 1));
        Checks.due("16 a twice in front", 3, x.like(2, X, X, Y));
        Checks.due("16 twice behind", 2, x.like(2, Y, X, X));
        Checks.due("16 twice outside", 2, x.like(2, X, Y, X));
        Checks.due("16 three times", 1, x.like(2, X, X, X));
        Checks.due("16 a value, and twice", 1, x.like(2, 2, X, X));
        Checks.due("16 all values", 1, x.like(2, 2, 2, 63));
        Checks.argument("16 relation -1", () -> x.like(-1, 0, 0, 0));
        Checks.argument("16 relation 3", () -> x.like(3, 0, 0, 0));
        Checks.argument("16 a is 72", () -> x.like(0, 72, 0, 0));
        Checks.argument("16 a is -1", () -> x.like(0, -1, 0, 0));
        Checks.argument("16 b does not count", () -> x.like(0, X, X, 0));
        Checks.argument("16 c does not count", () -> x.like(1, X, Y, Z));
        Checks.argument("16 c is 72", () -> x.like(2, X, Y, 72));
        Made.copy(x, 0, 0);
        x.head(0, 9, 0, 0);
        x.rule();
        x.run();
        Checks.due("16 derived ones too", 3, x.like(0, X, 0, 0));
        x.head(0, 8, 0, 0);
        x.like(2, X, Y, Z);
        Checks.due("16 the rule in the making is left alone", 1, x.item(LESS, 0, 1, 2, 0));
    }

    private static void promise17Matches() {
        RuleRounds x = Made.relations(1, 2, 1);
        for (int i = 0; i < 5; i++) {
            x.fact(0, i, 0, 0);
        }
        x.fact(1, 1, 2, 0);
        x.fact(1, 2, 2, 0);
        x.fact(1, 2, 3, 0);
        x.head(2, X, 0, 0);
        x.item(HOLDS, 0, X, 0, 0);
        x.item(LESS, 0, X, Y, 0);
        x.item(HOLDS, 0, Y, 0, 0);
        Checks.due("17 rule 0", 0, x.rule());
        Checks.due("17 LESS", 10, x.matches(0));
        x.head(2, X, 0, 0);
        x.item(HOLDS, 0, X, 0, 0);
        x.item(HOLDS, 0, Y, 0, 0);
        x.item(OTHER, 0, X, Y, 0);
        Checks.due("17 rule 1", 1, x.rule());
        Checks.due("17 OTHER", 20, x.matches(1));
        x.head(2, 1, 0, 0);
        x.item(NOT, 1, X, X, 0);
        x.item(HOLDS, 1, X, Y, 0);
        x.item(NOT, 2, Y, 0, 0);
        Checks.due("17 rule 2", 2, x.rule());
        Checks.due("17 NOT", 1, x.matches(2));
        x.head(2, 9, 0, 0);
        Checks.due("17 rule 3", 3, x.rule());
        Checks.due("17 without items there is one", 1, x.matches(3));
        x.head(2, 9, 0, 0);
        x.item(LESS, 0, 2, 2, 0);
        Checks.due("17 rule 4", 4, x.rule());
        Checks.due("17 what never holds", 0, x.matches(4));
        Checks.argument("17 rule 5", () -> x.matches(5));
        Checks.argument("17 rule -1", () -> x.matches(-1));
        Checks.due("17 with a cycle, too", RuleRounds.CYCLE, x.run());
        x.fact(2, 2, 0, 0);
        Checks.due("17 by what is there now", 0, x.matches(2));
        matchesByDerivedTuples();
    }

    private static void matchesByDerivedTuples() {
        RuleRounds x = Made.relations(2, 2);
        Made.chain(x, 0, 3);
        Made.closure(x, 0, 1);
        Checks.due("17 nothing derived yet", 0, x.matches(1));
        x.step();
        Checks.due("17 behind a round", 2, x.matches(1));
        x.run();
        Checks.due("17 behind all", 3, x.matches(1));
        Checks.due("17 the other", 3, x.matches(0));
    }

    // ---- what lies between the promises ---------------------------------------------------------------

    private static void whatTakesDerivedTuplesAway() {
        for (int way = 0; way < 4; way++) {
            RuleRounds x = Made.relations(1, 1);
            x.fact(0, 1, 0, 0);
            x.fact(0, 2, 0, 0);
            Made.copy(x, 1, 0);
            Checks.due("derived", 2, x.run());
            if (way == 0) {
                x.fact(0, 3, 0, 0);
            } else if (way == 1) {
                x.drop(0, 1, 0, 0);
            } else if (way == 2) {
                x.relation(1);
            } else {
                Made.copy(x, 1, 0);
            }
            Checks.due("derived tuples go, way " + way, 0, x.count(1));
            Checks.due("rounds, way " + way, 0, x.rounds());
            Checks.due("facts stay, way " + way, way == 0 ? 3 : way == 1 ? 1 : 2, x.count(0));
            Checks.due("anew, way " + way, way == 0 ? 3 : way == 1 ? 1 : 2, x.step());
        }
    }

    private static void whatLeavesDerivedTuples() {
        RuleRounds x = Made.relations(1, 1);
        x.fact(0, 1, 0, 0);
        Made.copy(x, 1, 0);
        x.run();
        x.fact(0, 1, 0, 0);
        x.drop(0, 2, 0, 0);
        x.drop(1, 1, 0, 0);
        x.head(1, X, 0, 0);
        x.item(NOT, 1, X, 0, 0);
        x.rule();
        x.like(1, X, 0, 0);
        x.matches(0);
        Checks.argument("a wrong fact", () -> x.fact(0, 64, 0, 0));
        Checks.argument("a wrong relation", () -> x.relation(4));
        Checks.due("all is there", 1, x.count(1));
        Checks.due("rounds", 2, x.rounds());
        Checks.due("done", RuleRounds.DONE, x.step());
    }

    /** The most tuples, three HOLDS that have nothing in common, and checks that only the last one makes ready. */
    private static void largeRulesEnd() {
        RuleRounds x = Made.relations(2, 1);
        for (int i = 0; i < 200; i++) {
            x.fact(0, i % 50, i / 50, 0);
        }
        x.head(1, X, 0, 0);
        x.item(HOLDS, 0, 67, 68, 0);
        x.item(HOLDS, 0, 69, 70, 0);
        x.item(HOLDS, 0, Y, X, 0);
        x.rule();
        Checks.due("all three", 8000000, x.matches(0));
        Checks.due("four follow", 4, x.run());
        Checks.due("still all three", 8000000, x.matches(0));
        x.head(1, X, 0, 0);
        x.item(HOLDS, 0, X, Y, 0);
        x.item(HOLDS, 0, Z, 67, 0);
        x.item(HOLDS, 0, 68, 69, 0);
        x.item(LESS, 0, Y, 69, 0);
        x.rule();
        Checks.due("with a check at the end", 50 * 50 * 200 * 6, x.matches(1));
        Checks.due("50 follow", 50, x.run());
    }
}
