import java.io.IOException;

/** A test for each sentence of the document that names a boundary case. */
public final class EdgesTest {
    public static void main(String[] args) throws IOException {
        TermsEdges.run();
        ErrorsEdges.run();
        ChangesEdges.run();
        LooksEdges.run();
        TextsEdges.run();
        Sentences.compare(Edges.quoted());
        Edges.end();
    }
}
