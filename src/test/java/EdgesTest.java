import java.io.IOException;

/** Each sentence of the document that names an edge, with a test of its own; and that none is left out. */
public final class EdgesTest {
    public static void main(String[] args) throws IOException {
        TermEdges.all();
        TyingEdges.all();
        TextEdges.all();
        StateEdges.all();
        LookEdges.all();
        WouldBeEdges.all();
        RangeEdges.all();
        Check.noSentence();
        Sentences.compareWithDocument();
        Check.end();
    }
}
