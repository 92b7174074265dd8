import java.io.IOException;
import java.nio.file.Path;

/** Each sentence of the document with the boundary cases that it names: a test of its own for each. */
public final class EdgesTest {
    public static void main(String[] args) throws IOException {
        Edges edges = new Edges(Path.of(args.length > 1 ? args[1] : "../shared/DOC.md"));
        new FirstEdges(edges).run();
        new TextEdges(edges).run();
        new DeedEdges(edges).run();
        new QuestionEdges(edges).run();
        new KindEdges(edges).run();
        new RefusedEdges(edges).run();
        new PromiseEdges(edges).run();
        edges.end();
    }
}
