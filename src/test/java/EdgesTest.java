/** Each sentence of the document that names an edge, with calls at it, just inside and just outside of it. */
public final class EdgesTest {
    public static void main(String[] args) {
        TermsEdges.all();
        LetterEdges.all();
        TextEdges.all();
        NetEdges.all();
        ListEdges.all();
        Edge.allAreQuoted();
        Due.end();
    }
}
