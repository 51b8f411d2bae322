/**
 * Each sentence of the document at its boundary: the last call that is taken and the first one that
 * is refused, the exception, and that a refused call has changed nothing. In the end, no sentence
 * may be without a test that names it.
 */
public final class BoundaryTest {
    private BoundaryTest() {
    }

    public static void main(String[] args) {
        VectorBoundaries.tell();
        OpenVectorBoundaries.tell();
        MapBoundaries.tell();
        ValueBoundaries.tell();
        SequenceBoundaries.tell();
        TransactionBoundaries.tell();
        CommitBoundaries.tell();
        AgentBoundaries.tell();
        WholeBoundaries.tell();
        OverviewBoundaries.tell();
        DocumentText.checkEachIsNamed();
        Check.finish();
    }
}
