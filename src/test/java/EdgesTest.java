import java.io.IOException;
import java.nio.file.Path;

/**
 * Each sentence of the document that names a boundary case has a test of its own here, on both sides of the boundary
 * where it has two; with the document's path as the second argument it is looked whether a sentence has none.
 */
public final class EdgesTest {
    public static void main(String[] args) throws IOException {
        Edges edges = new Edges();
        TermsEdges.run(edges);
        TextEdges.run(edges);
        StateEdges.run(edges);
        StationEdges.run(edges);
        ValuesEdges.run(edges);
        QuestionEdges.run(edges);
        if (args.length > 1) {
            edges.compareWith(Path.of(args[1]));
        }
        Checks.end();
    }
}
