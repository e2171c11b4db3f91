import java.io.IOException;
import java.nio.file.Path;

/** Each sentence of the document that promises something, with a test of its own. */
public final class EdgesTest {
    private EdgesTest() {
    }

    public static void main(String[] args) throws IOException {
        Edges.open(Path.of("../shared/DOC.md"));
        CallEdges.run();
        BodyEdges.run();
        PowerEdges.run();
        SeatEdges.run();
        ThrowsEdges.run();
        Edges.tellWhatIsNotQuoted();
        System.exit(Edges.end());
    }
}
