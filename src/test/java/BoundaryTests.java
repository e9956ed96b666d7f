import java.io.IOException;
import java.nio.file.Path;

/**
 * A test of its own for each sentence of the document that names a boundary: the calls right at it and
 * right beside it on both sides. Fails too if a sentence of the document has no test.
 */
public final class BoundaryTests {
    private BoundaryTests() {
    }

    public static void main(String[] args) throws IOException {
        Document document = new Document(Path.of("../shared/DOC.md"));
        Boundaries check = new Boundaries(document);
        BoardBoundaries.all(check);
        FightBoundaries.all(check);
        RecordBoundaries.all(check, document);
        ActionBoundaries.all(check);
        LookingBoundaries.all(check);
        if (!check.report()) {
            System.exit(1);
        }
    }
}
