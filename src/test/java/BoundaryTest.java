/** For each sentence of the document that names a boundary case a test of its own, which quotes it. */
public final class BoundaryTest {

    public static void main(String[] args) {
        GroupEdges.all();
        ItemEdges.all();
        NettingEdges.all();
        GoodsEdges.all();
        ChangeEdges.all();
        UndoEdges.all();
        Document.isQuotedWhole();
        Check.end();
    }
}
