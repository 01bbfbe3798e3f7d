import java.io.IOException;
import java.util.Set;
import java.util.TreeSet;

/**
 * A test at the edges of each sentence of "Terms" and of the promises, and that there is one for
 * each sentence of the document.
 */
public final class EdgesTest {
    private static final Due DUE = new Due("EdgesTest");

    private EdgesTest() {
    }

    public static void main(String[] args) throws IOException {
        new ScriptEdges(DUE).run();
        new CueEdges(DUE).run();
        new FadeEdges(DUE).run();
        new LampEdges(DUE).run();
        new LightEdges(DUE).run();
        new PerformanceEdges(DUE).run();
        new ThrowEdges(DUE).run();
        DUE.close();
        sentences();
        DUE.end();
    }

    private static void sentences() throws IOException {
        Set<String> untold = new TreeSet<>(Document.sentences());
        untold.removeAll(DUE.told());
        DUE.is("sentences without a test", untold, Set.of());
        Set<String> unknown = new TreeSet<>(DUE.told());
        unknown.removeAll(Document.sentences());
        DUE.is("tests without a sentence", unknown, Set.of());
    }
}
