import java.io.IOException;
import java.nio.file.Files;
import java.nio.file.Path;

/** The document's own words, so that a test cannot quote what it does not say. */
final class Document {
    static final int PROMISES = 32;
    private static final Path FILE = Path.of("../shared/DOC.md");
    private static final String TEXT = read();

    private Document() {
    }

    private static String read() {
        try {
            return Files.exists(FILE) ? plain(Files.readString(FILE)) : "";
        } catch (IOException e) {
            return "";
        }
    }

    private static String plain(String words) {
        return words.replaceAll("\\s+", " ");
    }

    /** What stands under a promise's heading; for 0 all ahead of the first. */
    static String section(int promise) {
        int from = promise == 0 ? 0 : TEXT.indexOf("## Promise " + promise + ":");
        int to = promise == PROMISES ? TEXT.indexOf("## Not promised") : TEXT.indexOf("## Promise " + (promise + 1) + ":");
        return from < 0 || to < from ? "" : TEXT.substring(from, to);
    }

    /** Without the document beside the checkout there is nothing to hold the words against. */
    static boolean says(int promise, String words) {
        return TEXT.isEmpty() || section(promise).contains(plain(words));
    }
}
