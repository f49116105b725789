/** All promises: a test for each sentence of the document that names a boundary case, in the document's order. */
public final class EdgesTest {
    public static void main(String[] args) {
        TermEdges.all();
        RowEdges.all();
        CountryEdges.all();
        DeedEdges.all();
        WayEdges.all();
        ClueEdges.all();
        ChanceEdges.all();
        ToldEdges.all();
        Edge.end();
        Due.end();
    }
}
