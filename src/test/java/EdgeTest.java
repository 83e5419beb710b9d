import java.io.IOException;
import java.nio.file.Path;

/** For each sentence of the document a test of its edges; it fails too if a sentence has none. */
public final class EdgeTest {
    public static void main(String[] args) throws IOException {
        Edges.readDocument(Path.of("../shared/DOC.md"));
        EdgeTape.test();
        EdgeState.test();
        EdgeDays.test();
        EdgeBest.test();
        EdgeSeen.test();
        EdgeSheet.test();
        EdgeRefusal.test();
        Edges.finish();
    }
}
