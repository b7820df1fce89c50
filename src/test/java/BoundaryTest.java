/** Each sentence of the document that names a boundary case, in a test of its own that names promise and sentence. */
public final class BoundaryTest {
    private BoundaryTest() {
    }

    public static void main(String[] args) {
        TermsBoundaries.all();
        RoundsBoundaries.all();
        GivenBoundaries.all();
        RuleBoundaries.all();
        DerivingBoundaries.all();
        AnswerBoundaries.all();
        Document.isQuotedWhole();
        Checks.end();
    }
}
