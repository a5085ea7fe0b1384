import java.nio.file.Path;

/** For each sentence of the document that names a boundary case a test of its own. */
public final class BoundaryTests {
    public static void main(String[] args) throws Exception {
        Sentences sentences = new Sentences(Path.of(args[0], "DOC.md"));
        new TermBoundaries(sentences).all();
        new CallBoundaries(sentences).all();
        sentences.end();
    }
}
