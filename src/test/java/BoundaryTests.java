import java.io.IOException;
import java.nio.file.Path;

/** Each sentence of the document with its boundaries: on it, one below, one above, and what is refused there. */
public final class BoundaryTests {
    private BoundaryTests() {
    }

    public static void main(String[] args) throws IOException {
        Sentences.readDocument(Path.of(System.getProperty("villageboard.document", "../shared/DOC.md")));
        TextBoundaries.run();
        PlayBoundaries.run();
        AheadBoundaries.run();
        FrontierBoundaries.run();
        Sentences.everySentenceIsQuoted();
        Checks.finish("BoundaryTests");
    }
}
