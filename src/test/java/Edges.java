import java.io.IOException;
import java.nio.file.Files;
import java.nio.file.Path;

/**
 * Checks of boundary cases, each under the words of the document that name it. Where ../shared/DOC.md can be read,
 * the words must stand there; and no words stand without a check behind them.
 */
final class Edges {
    private final Checks checks;
    private final String document;
    private String words = "";
    private int under = 1;

    Edges(String name) {
        checks = new Checks(name);
        document = read(Path.of("../shared/DOC.md"));
    }

    private static String read(Path path) {
        try {
            return Files.isReadable(path) ? oneLine(Files.readString(path)) : "";
        } catch (IOException e) {
            return "";
        }
    }

    private static String oneLine(String text) {
        return text.replaceAll("\\s+", " ");
    }

    /** What comes next is asked by these words. */
    void says(String newWords) {
        checks.holds("a check of \"" + words + "\"", under > 0);
        words = newWords;
        under = 0;
        checks.holds("the document says \"" + words + "\"", document.isEmpty() || document.contains(words));
    }

    void due(String call, long got, long want) {
        under++;
        checks.due("\"" + words + "\": " + call, got, want);
    }

    void end() {
        checks.holds("a check of \"" + words + "\"", under > 0);
        checks.end();
    }
}
