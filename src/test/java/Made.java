/** Objects and rules that many tests need. */
final class Made {
    static final int HOLDS = 0;
    static final int NOT = 1;
    static final int LESS = 2;
    static final int OTHER = 3;
    /** Variables. */
    static final int X = 64;
    static final int Y = 65;
    static final int Z = 66;
    static final int LAST = 71;

    private Made() {
    }

    static RuleRounds relations(int... columns) {
        RuleRounds x = new RuleRounds();
        for (int width : columns) {
            x.relation(width);
        }
        return x;
    }

    /** The facts (0), (1), .. */
    static void singles(RuleRounds x, int relation, int length) {
        for (int i = 0; i < length; i++) {
            x.fact(relation, i, 0, 0);
        }
    }

    /** The facts (0, 1), (1, 2), .. */
    static void chain(RuleRounds x, int relation, int length) {
        for (int i = 0; i < length; i++) {
            x.fact(relation, i, i + 1, 0);
        }
    }

    /** Facts of a relation with two columns: (0, 0), (0, 1), .. (0, 63), (1, 0), .. */
    static void pairs(RuleRounds x, int relation, int length) {
        for (int i = 0; i < length; i++) {
            x.fact(relation, i / 64, i % 64, 0);
        }
    }

    /** to(x, y) if from(x, y); to(x, z) if from(x, y) and to(y, z). */
    static void closure(RuleRounds x, int from, int to) {
        copyPairs(x, to, from);
        x.head(to, X, Z, 0);
        x.item(HOLDS, from, X, Y, 0);
        x.item(HOLDS, to, Y, Z, 0);
        x.rule();
    }

    /** to(x, y) if from(x) and from(y). */
    static void product(RuleRounds x, int to, int from) {
        x.head(to, X, Y, 0);
        x.item(HOLDS, from, X, 0, 0);
        x.item(HOLDS, from, Y, 0, 0);
        x.rule();
    }

    /** to(x, y) if from(x, y). */
    static void copyPairs(RuleRounds x, int to, int from) {
        x.head(to, X, Y, 0);
        x.item(HOLDS, from, X, Y, 0);
        x.rule();
    }

    /** to(x) if from(x). */
    static void copy(RuleRounds x, int to, int from) {
        x.head(to, X, 0, 0);
        x.item(HOLDS, from, X, 0, 0);
        x.rule();
    }

    /** to(value), without items. */
    static void always(RuleRounds x, int to, int value) {
        x.head(to, value, 0, 0);
        x.rule();
    }

    /** A rule of relations with one column, and two items. */
    static void rule(RuleRounds x, int head, int kind, int relation, int otherKind, int otherRelation) {
        x.head(head, X, 0, 0);
        x.item(kind, relation, X, 0, 0);
        x.item(otherKind, otherRelation, X, 0, 0);
        x.rule();
    }
}
