/** Promises 5 to 7, how a rule is made: a method for each sentence that names a boundary. */
final class RuleBoundaries {
    private static final int HOLDS = Made.HOLDS;
    private static final int NOT = Made.NOT;
    private static final int LESS = Made.LESS;
    private static final int OTHER = Made.OTHER;
    private static final int X = Made.X;
    private static final int Y = Made.Y;
    private static final int LAST = Made.LAST;

    private static final String HEAD = "Promise 5: head";
    private static final String ITEM = "Promise 6: item";
    private static final String RULE = "Promise 7: rule";

    private RuleBoundaries() {
    }

    static void all() {
        Sentence.holds(HEAD, "The rule in the making has this head,", RuleBoundaries::hasThisHead);
        Sentence.holds(HEAD, "and no items.", RuleBoundaries::hasNoItems);
        Sentence.holds(HEAD, "Illegal argument: also if a term is none,", RuleBoundaries::headTermIsNone);
        Sentence.holds(HEAD, "or one that does not count is not 0.", RuleBoundaries::headTermDoesNotCount);
        Sentence.holds(ITEM, "The rule in the making has one item more: how many it has.",
                RuleBoundaries::howManyItHas);
        Sentence.holds(ITEM, "Illegal argument: also if kind is not 0 .. 3,", RuleBoundaries::kindsAre0To3);
        Sentence.holds(ITEM, "of LESS and OTHER if relation or c is not 0;", RuleBoundaries::comparisonHasTwoTerms);
        Sentence.holds(ITEM, "illegal state: no head was told,", RuleBoundaries::itemWithoutHead);
        Sentence.holds(ITEM, "or it would have too many.", RuleBoundaries::tooManyItems);
        Sentence.holds(RULE, "The rule in the making is a rule from now on,", RuleBoundaries::isARuleFromNowOn);
        Sentence.holds(RULE, "and no head is told:", RuleBoundaries::noHeadIsTold);
        Sentence.holds(RULE, "its number, from 0 on;", RuleBoundaries::ruleNumbers);
        Sentence.holds(RULE, "UNSAFE (it stays in the making).", RuleBoundaries::unsafeStaysInTheMaking);
        Sentence.holds(RULE, "Illegal state, ahead of UNSAFE: no head was told,", RuleBoundaries::ruleWithoutHead);
        Sentence.holds(RULE, "or there are 24.", RuleBoundaries::thereAre24);
    }

    /** Relations of 1, 2 and 3 columns with a fact each, and a rule in the making with one item. */
    private static RuleRounds inTheMaking() {
        RuleRounds x = headless();
        x.head(0, X, 0, 0);
        x.item(HOLDS, 0, X, 0, 0);
        return x;
    }

    private static RuleRounds headless() {
        RuleRounds x = Made.relations(1, 2, 3);
        x.fact(0, 5, 0, 0);
        x.fact(1, 5, 6, 0);
        x.fact(2, 5, 6, 7);
        return x;
    }

    // ---- 5 --------------------------------------------------------------------------------------------

    private static void hasThisHead() {
        for (int value = 0; value <= 63; value += 63) {
            RuleRounds x = Made.relations(3);
            x.head(0, 1, 2, 3);
            x.head(0, value, value, 63 - value);
            x.rule();
            Checks.due("one tuple follows", 1, x.run());
            Checks.due("the later head's", true, x.has(0, value, value, 63 - value));
        }
        RuleRounds variables = headless();
        variables.head(2, LAST, X, LAST);
        variables.item(HOLDS, 1, X, LAST, 0);
        variables.rule();
        variables.run();
        Checks.due("the head's variables", true, variables.has(2, 6, 5, 6));
        RuleRounds full = twentyFourRules();
        full.head(0, 63, 0, 0);
        Checks.due("a head when there are 24 rules", 1, full.item(LESS, 0, 1, 2, 0));
    }

    private static void hasNoItems() {
        RuleRounds x = sixItems();
        x.head(0, 63, 0, 0);
        Checks.due("no items behind six", 1, x.item(HOLDS, 0, X, 0, 0));
        Checks.due("HOLDS again", 2, x.item(HOLDS, 0, X, 0, 0));
        Checks.due("and a third time", 3, x.item(HOLDS, 0, X, 0, 0));
        x.head(0, X, 0, 0);
        Checks.due("what gave the variable its value is gone", RuleRounds.UNSAFE, x.rule());
        x.head(0, 63, 0, 0);
        x.item(LESS, 0, 2, 1, 0);
        x.head(0, 63, 0, 0);
        Checks.due("a rule without items", 0, x.rule());
        Checks.due("has one match", 1, x.matches(0));
    }

    private static void headTermIsNone() {
        for (int column = 0; column < 3; column++) {
            final int relation = column;
            for (int number : Numbers.NO_TERMS) {
                int[] t = {X, column > 0 ? X : 0, column > 1 ? X : 0};
                t[column] = number;
                Refused.argument(number + " in column " + column, RuleBoundaries::inTheMaking,
                        x -> x.head(relation, t[0], t[1], t[2]));
                Refused.argument(number + " in column " + column + " of 3", RuleBoundaries::inTheMaking,
                        x -> x.head(2, t[0], t[1], t[2]));
            }
            for (int term : new int[] {0, 63, 64, 71}) {
                int[] t = Numbers.but(column, term, 1);
                RuleRounds x = headless();
                x.head(2, t[0], t[1], t[2]);
                x.item(HOLDS, 2, 64, 71, 1);
                Checks.due(term + " in column " + column, 0, x.rule());
            }
        }
        for (int relation : Numbers.none(3)) {
            Refused.argument("relation " + relation, RuleBoundaries::inTheMaking, x -> x.head(relation, 0, 0, 0));
        }
    }

    private static void headTermDoesNotCount() {
        for (int number : Numbers.NOT_ZERO) {
            Refused.argument("b of one column is " + number, RuleBoundaries::inTheMaking, x -> x.head(0, X, number, 0));
            Refused.argument("c of one column is " + number, RuleBoundaries::inTheMaking, x -> x.head(0, X, 0, number));
            Refused.argument("c of two columns is " + number, RuleBoundaries::inTheMaking,
                    x -> x.head(1, X, 1, number));
        }
    }

    // ---- 6 --------------------------------------------------------------------------------------------

    private static RuleRounds sixItems() {
        RuleRounds x = inTheMaking();
        x.item(HOLDS, 0, X, 0, 0);
        x.item(HOLDS, 0, X, 0, 0);
        x.item(LESS, 0, X, 63, 0);
        x.item(OTHER, 0, X, 63, 0);
        x.item(OTHER, 0, X, 62, 0);
        return x;
    }

    private static void howManyItHas() {
        RuleRounds x = headless();
        x.head(0, X, 0, 0);
        Checks.due("NOT", 1, x.item(NOT, 1, X, 63, 0));
        Checks.due("LESS", 2, x.item(LESS, 0, 0, 63, 0));
        Checks.due("OTHER", 3, x.item(OTHER, 0, 71, 0, 0));
        Checks.due("UNSAFE", RuleRounds.UNSAFE, x.rule());
        Checks.due("HOLDS", 4, x.item(HOLDS, 2, X, 71, 0));
        Checks.due("the same again", 5, x.item(HOLDS, 2, X, 71, 0));
        Checks.due("the last", 6, x.item(HOLDS, 2, 0, 63, 64));
    }

    private static void kindsAre0To3() {
        for (int kind : new int[] {-1, 4, 5, 64, Integer.MIN_VALUE, Integer.MAX_VALUE}) {
            Refused.argument("kind " + kind, RuleBoundaries::inTheMaking, x -> x.item(kind, 0, 1, 0, 0));
            Refused.argument("kind " + kind + ", no head", RuleBoundaries::headless, x -> x.item(kind, 0, 1, 0, 0));
        }
        for (int kind = 0; kind <= 3; kind++) {
            Checks.due("kind " + kind, 2, inTheMaking().item(kind, 0, 1, 0, 0));
        }
        for (int kind = HOLDS; kind <= NOT; kind++) {
            termsOfARelation(kind);
        }
    }

    private static void termsOfARelation(int kind) {
        for (int relation : Numbers.none(3)) {
            Refused.argument("relation " + relation, RuleBoundaries::inTheMaking, x -> x.item(kind, relation, 0, 0, 0));
        }
        for (int column = 0; column < 3; column++) {
            for (int number : Numbers.NO_TERMS) {
                int[] t = Numbers.but(column, number, X);
                Refused.argument(number + " in column " + column, RuleBoundaries::inTheMaking,
                        x -> x.item(kind, 2, t[0], t[1], t[2]));
            }
            for (int term : new int[] {0, 63, 64, 71}) {
                int[] t = Numbers.but(column, term, X);
                Checks.due(term + " in column " + column, 2, inTheMaking().item(kind, 2, t[0], t[1], t[2]));
            }
        }
        for (int number : Numbers.NOT_ZERO) {
            Refused.argument("b of one column is " + number, RuleBoundaries::inTheMaking,
                    x -> x.item(kind, 0, X, number, 0));
            Refused.argument("c of one column is " + number, RuleBoundaries::inTheMaking,
                    x -> x.item(kind, 0, X, 0, number));
            Refused.argument("c of two columns is " + number, RuleBoundaries::inTheMaking,
                    x -> x.item(kind, 1, X, X, number));
        }
    }

    private static void comparisonHasTwoTerms() {
        for (int i = LESS; i <= OTHER; i++) {
            final int kind = i;
            for (int number : Numbers.NOT_ZERO) {
                Refused.argument("relation is " + number, RuleBoundaries::inTheMaking,
                        x -> x.item(kind, number, X, 63, 0));
                Refused.argument("c is " + number, RuleBoundaries::inTheMaking, x -> x.item(kind, 0, X, 63, number));
                Refused.argument("no relations, relation is " + number, RuleRounds::new,
                        x -> x.item(kind, number, X, 63, 0));
                Refused.argument("no relations, c is " + number, RuleRounds::new, x -> x.item(kind, 0, X, 63, number));
            }
            Refused.argument("relation is 2, of three columns", RuleBoundaries::inTheMaking,
                    x -> x.item(kind, 2, X, 63, 0));
            for (int number : Numbers.NO_TERMS) {
                Refused.argument("a is " + number, RuleBoundaries::inTheMaking, x -> x.item(kind, 0, number, 1, 0));
                Refused.argument("b is " + number, RuleBoundaries::inTheMaking, x -> x.item(kind, 0, 1, number, 0));
                Refused.argument("no relations, a is " + number, RuleRounds::new, x -> x.item(kind, 0, number, 1, 0));
                Refused.argument("no relations, b is " + number, RuleRounds::new, x -> x.item(kind, 0, 1, number, 0));
            }
            for (int term : new int[] {0, 63, 64, 71}) {
                Checks.due("a is " + term, 2, inTheMaking().item(kind, 0, term, 1, 0));
                Checks.due("b is " + term, 2, inTheMaking().item(kind, 0, 1, term, 0));
            }
        }
    }

    private static void itemWithoutHead() {
        for (int i = HOLDS; i <= OTHER; i++) {
            final int kind = i;
            Refused.state("no head yet, kind " + kind, RuleBoundaries::headless, x -> x.item(kind, 0, 1, 0, 0));
            Refused.state("behind a rule, kind " + kind, RuleBoundaries::ruleIsMade, x -> x.item(kind, 0, 1, 0, 0));
            RuleRounds x = headless();
            Checks.argument("a head that is refused", () -> x.head(0, 72, 0, 0));
            Checks.state("is not told, kind " + kind, () -> x.item(kind, 0, 1, 0, 0));
        }
        comparisonWithoutRelations();
    }

    /** The 0 in the relation's place names none, so that it is fine where there is no relation 0. */
    private static void comparisonWithoutRelations() {
        for (int i = LESS; i <= OTHER; i++) {
            final int kind = i;
            for (int term : new int[] {0, 63, 64, 71}) {
                Refused.state("no relations, a is " + term, RuleRounds::new, x -> x.item(kind, 0, term, 1, 0));
                Refused.state("no relations, b is " + term, RuleRounds::new, x -> x.item(kind, 0, 1, term, 0));
            }
        }
    }

    private static RuleRounds ruleIsMade() {
        RuleRounds x = inTheMaking();
        x.rule();
        return x;
    }

    private static void tooManyItems() {
        for (int i = HOLDS; i <= OTHER; i++) {
            final int kind = i;
            Refused.state("a seventh of kind " + kind, RuleBoundaries::sixItems, x -> x.item(kind, 0, 1, 0, 0));
        }
        RuleRounds x = inTheMaking();
        x.item(HOLDS, 0, X, 0, 0);
        Checks.due("a third HOLDS", 3, x.item(HOLDS, 0, X, 0, 0));
        Checks.state("a fourth", () -> x.item(HOLDS, 0, X, 0, 0));
        Checks.due("a fourth item of another kind", 4, x.item(NOT, 1, X, X, 0));
        Checks.state("a fourth HOLDS behind it", () -> x.item(HOLDS, 0, X, 0, 0));
        Checks.due("a fifth item", 5, x.item(LESS, 0, X, 63, 0));
        Checks.due("a sixth", 6, x.item(OTHER, 0, X, 63, 0));
        Checks.state("a seventh", () -> x.item(NOT, 1, X, X, 0));
        Checks.due("the six are a rule", 0, x.rule());
        Checks.due("by which this matches", 1, x.matches(0));
    }

    // ---- 7 --------------------------------------------------------------------------------------------

    private static void isARuleFromNowOn() {
        RuleRounds x = Made.relations(1, 1);
        Made.singles(x, 0, 3);
        x.head(1, X, 0, 0);
        x.item(HOLDS, 0, X, 0, 0);
        x.item(OTHER, 0, X, 1, 0);
        Checks.argument("in the making it is none", () -> x.matches(0));
        Checks.due("nothing follows by it", 0, x.run());
        Checks.due("rule", 0, x.rule());
        Checks.due("its matches", 2, x.matches(0));
        Checks.due("what follows", 2, x.run());
        x.head(1, 63, 0, 0);
        Checks.due("a second one in the making leaves it", 2, x.matches(0));
        Checks.due("and what is derived", 2, x.count(1));
        Checks.due("the second one", 1, x.rule());
        Checks.due("what follows by both", 3, x.run());
    }

    private static void noHeadIsTold() {
        RuleRounds x = ruleIsMade();
        Checks.state("rule again", () -> x.rule());
        Checks.state("item", () -> x.item(HOLDS, 0, X, 0, 0));
        Checks.argument("it is one rule", () -> x.matches(1));
        x.head(0, 63, 0, 0);
        Checks.due("a new head has no items", 1, x.item(LESS, 0, 1, 2, 0));
        Checks.due("the next rule", 1, x.rule());
    }

    private static void ruleNumbers() {
        RuleRounds x = Made.relations(1);
        for (int number = 0; number < 24; number++) {
            x.head(0, X, 0, 0);
            Checks.due("UNSAFE takes no number", RuleRounds.UNSAFE, x.rule());
            x.item(HOLDS, 0, X, 0, 0);
            Checks.due("number", number, x.rule());
        }
    }

    private static RuleRounds unsafe() {
        RuleRounds x = Made.relations(1, 1);
        Made.singles(x, 0, 3);
        Made.copy(x, 1, 0);
        x.run();
        x.head(1, Y, 0, 0);
        x.item(HOLDS, 0, X, 0, 0);
        return x;
    }

    private static void unsafeStaysInTheMaking() {
        RuleRounds x = unsafe();
        Checks.due("rule", RuleRounds.UNSAFE, x.rule());
        Checks.due("rule again", RuleRounds.UNSAFE, x.rule());
        Checks.argument("it is no rule", () -> x.matches(1));
        Checks.due("derived tuples stay", 3, x.count(1));
        Checks.due("rounds stay", 2, x.rounds());
        Checks.due("strata stay", 1, x.strata());
        Checks.due("it has its item", 2, x.item(HOLDS, 0, Y, 0, 0));
        Checks.due("now it is one", 1, x.rule());
        Checks.due("of two HOLDS", 9, x.matches(1));
        Tour.staysBehind("UNSAFE", RuleBoundaries::unsafe, y -> y.rule());
    }

    private static void ruleWithoutHead() {
        Refused.state("no head yet", RuleBoundaries::headless, x -> x.rule());
        Refused.state("behind a rule", RuleBoundaries::ruleIsMade, x -> x.rule());
        RuleRounds x = headless();
        Checks.argument("a head that is refused", () -> x.head(3, X, 0, 0));
        Checks.state("is not told", () -> x.rule());
        RuleRounds bare = new RuleRounds();
        Checks.state("no relations", () -> bare.rule());
    }

    /** 24 rules: relation 0 has 0 to 23. */
    private static RuleRounds twentyFourRules() {
        RuleRounds x = Made.relations(1);
        for (int value = 0; value < 24; value++) {
            Made.always(x, 0, value);
        }
        return x;
    }

    private static RuleRounds twentyFifth(int term) {
        RuleRounds x = twentyFourRules();
        x.run();
        x.head(0, term, 0, 0);
        return x;
    }

    private static void thereAre24() {
        RuleRounds x = twentyFourRules();
        Checks.due("the last of 24", 1, x.matches(23));
        Checks.due("what follows by 24", 24, x.run());
        Checks.due("by the last", 23, x.tuple(0, 23, 4));
        Checks.state("no head and 24 rules", () -> x.rule());
        Refused.state("a 25th that is safe", () -> twentyFifth(63), y -> y.rule());
        Refused.state("a 25th that is not", () -> twentyFifth(X), y -> y.rule());
        RuleRounds kept = twentyFifth(X);
        Checks.state("a 25th", () -> kept.rule());
        Checks.due("stays in the making", 1, kept.item(HOLDS, 0, X, 0, 0));
        Checks.state("and is refused again", () -> kept.rule());
        Checks.due("what is derived stays", 24, kept.count(0));
        Checks.argument("it is no rule", () -> kept.matches(24));
    }
}
