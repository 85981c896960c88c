import java.io.IOException;
import java.nio.file.Path;

/** For each of the promises, a test for each sentence of the document that names a boundary case. */
public final class BoundariesTest {
    public static void main(String[] args) throws IOException {
        Sentences doc = new Sentences(Document.read(Path.of("../shared/DOC.md")));
        new BoundariesOfKindsStoresPorts(doc).test();
        new BoundariesOfLots(doc).test();
        new BoundariesOfDays(doc).test();
        new BoundariesOfTexts(doc).test();
        new BoundariesOfProperties(doc).test();
        new BoundariesOfForecasts(doc).test();
        doc.end("BoundariesTest");
    }
}
