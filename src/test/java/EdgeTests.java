import java.io.IOException;
import java.nio.file.Files;
import java.nio.file.Path;

/** The boundary cases of the document, whose path is the argument. */
public final class EdgeTests {
    public static void main(String[] args) throws IOException {
        Edges edges = new Edges(new Document(Files.readString(Path.of(args[0]))));
        EdgesOfTerms.run(edges);
        EdgesOfTexts.run(edges);
        EdgesOfPromises.run(edges);
        edges.finish();
        System.out.println("EdgeTests: " + Script.passed() + " passed, " + Script.failed() + " failed");
        System.exit(Script.failed() == 0 ? 0 : 1);
    }
}
