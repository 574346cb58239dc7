import java.io.IOException;
import java.nio.file.Files;
import java.nio.file.Path;
import java.util.BitSet;
import java.util.function.Consumer;

/**
 * The edges that one test tells of: each says its promise and the sentence of the document that names it, and
 * has a new object of its own.
 */
final class Edges {
    static final int NONE = -1, MISSING = -2, BEYOND = -3, BELOW = -4, KIND = -5, COPY = -6, NO = -7, FULL = -8;

    private static final int PROMISES = 32;
    private static final String PROMISE = "## Promise ";
    private static final Path DOCUMENT = Path.of("../shared/DOC.md");

    private final String test;
    private final String document;
    private final BitSet told = new BitSet();
    private int edges = 0;
    private int wrong = 0;

    Edges(String test) throws IOException {
        this.test = test;
        document = Files.exists(DOCUMENT) ? Files.readString(DOCUMENT).replaceAll("\\s+", " ") : "";
        if (document.isEmpty()) System.out.println("no " + DOCUMENT + ", so no sentence is looked for in it");
        Watchdog.start(test);
    }

    void edge(int promise, String sentence, Consumer<Run> steps) {
        edges++;
        told.set(promise);
        String name = "promise " + promise + ", \"" + sentence + "\": ";
        if (!stands(promise, sentence)) fault(name + "the document doesn't say so there");
        Run run = new Run();
        steps.accept(run);
        run.end();
        for (String fault : run.faults()) fault(name + fault);
    }

    /** Whether a sentence stands in the promise, or in what the document says ahead of the promises. */
    private boolean stands(int promise, String sentence) {
        if (document.isEmpty()) return true;
        int first = document.indexOf(PROMISE + "1:");
        int from = document.indexOf(PROMISE + promise + ":");
        if (first < 0 || from < 0) return false;
        int to = document.indexOf("## ", from + 1);
        String own = document.substring(from, to < 0 ? document.length() : to);
        return own.contains(sentence) || document.substring(0, first).contains(sentence);
    }

    private void fault(String text) {
        wrong++;
        System.out.println(text);
    }

    /** Ends the test, which has told of the edges of all promises from one to another. */
    void end(int from, int to) {
        for (int promise = from; promise <= to && promise <= PROMISES; promise++) {
            if (!told.get(promise)) fault("no edge of promise " + promise);
        }
        System.out.println(wrong == 0 ? edges + " edges hold" : test + ": " + wrong + " answers are not as due");
        if (wrong != 0) System.exit(1);
    }
}
