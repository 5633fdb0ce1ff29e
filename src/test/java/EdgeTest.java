import java.io.IOException;
import java.nio.file.Path;

/** Each sentence of the document that names a boundary case, by a test of its own; it is run in the checkout. */
public final class EdgeTest {
    private EdgeTest() {
    }

    public static void main(String[] arguments) throws IOException {
        Edges edges = new Edges(new Document(Path.of("../shared/DOC.md")));
        new TermsEdges(edges).run();
        new ActEdges(edges).run();
        new TextEdges(edges).run();
        new MakingEdges(edges).run();
        new ValueEdges(edges).run();
        new LookEdges(edges).run();
        new QuestionEdges(edges).run();
        new StateEdges(edges).run();
        edges.end();
    }
}
