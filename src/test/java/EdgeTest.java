import java.io.IOException;
import java.nio.charset.StandardCharsets;
import java.nio.file.Files;
import java.nio.file.Path;

/**
 * Promises 1 to 51: for each sentence of the document that names a boundary case a test of its own,
 * told in the document's words. Fails too if those words do not stand in the document, or if a
 * sentence there that begins with "Throws" has no test.
 */
public final class EdgeTest {
    private static final int PROMISES = 51;

    public static void main(String[] args) throws IOException {
        EdgeNetwork.tell();
        EdgeCalls.tell();
        EdgeRoutes.tell();
        EdgeRecords.tell();
        EdgePrograms.tell();
        EdgeUndo.tell();
        checkDocument(Files.readString(Path.of("../shared/DOC.md"), StandardCharsets.UTF_8));
        Edge.CHECK.end();
    }

    private static void checkDocument(String document) {
        String terms = between(document, "## Terms", "## Promise 1:");
        checkWords(Edge.TERMS, terms);
        for (int promise = 1; promise <= PROMISES; promise++) {
            String next = promise < PROMISES ? "## Promise " + (promise + 1) + ":" : "## Not promised";
            String section = between(document, "## Promise " + promise + ":", next);
            checkWords(promise, section);
            Edge.CHECK.under("Promise " + promise);
            Edge.CHECK.no("has no test", Edge.told(promise).isEmpty());
            for (String line : section.split("\n")) {
                if (line.startsWith("Throws ")) {
                    Edge.CHECK.yes("there is a test of: " + line, Edge.told(promise).contains(line));
                }
            }
        }
    }

    private static void checkWords(int promise, String section) {
        Edge.CHECK.under("Section " + promise);
        for (String words : Edge.told(promise)) {
            Edge.CHECK.yes("the document says: " + words, section.contains(words));
        }
    }

    private static String between(String document, String start, String end) {
        int first = document.indexOf(start);
        int last = document.indexOf(end);
        Edge.CHECK.yes("the document has " + start + " and " + end, first >= 0 && last > first);
        return first >= 0 && last > first ? document.substring(first, last) : "";
    }
}
