import java.io.IOException;
import java.nio.file.DirectoryStream;
import java.nio.file.Files;
import java.nio.file.Path;
import java.util.ArrayList;
import java.util.List;
import java.util.regex.Matcher;
import java.util.regex.Pattern;

/** That no promise is without a test of its bounds: each is quoted, and each refusal and NONE that it names is. */
public final class SentencesTest {
    private static final Pattern QUOTE = Pattern.compile("Check\\.sentence\\((\\d+), (\"[^\"]*\"(?:\\s*\\+\\s*\"[^\"]*\")*)\\)");
    private static final String[] NAMED = {"UNKNOWN", "OUTSIDE", "NOT:", "FULL", "NONE"};

    public static void main(String[] args) throws IOException {
        List<List<String>> quotes = quotesOfTests();
        for (int promise = 0; promise <= Document.PROMISES; promise++) {
            Check.holds("a test quotes promise " + promise, !quotes.get(promise).isEmpty());
            for (String word : NAMED) {
                if (promise > 0 && names(Document.section(promise), word)) {
                    Check.holds("a test quotes " + word + " of promise " + promise, quotes.get(promise).stream().anyMatch(q -> names(q, word)));
                }
            }
        }
        Check.end("SentencesTest");
    }

    private static boolean names(String words, String word) {
        return words.matches("(?s).*\\b" + word + ".*");
    }

    private static List<List<String>> quotesOfTests() throws IOException {
        List<List<String>> quotes = new ArrayList<>();
        for (int promise = 0; promise <= Document.PROMISES; promise++) {
            quotes.add(new ArrayList<>());
        }
        try (DirectoryStream<Path> files = Files.newDirectoryStream(Path.of("src/test/java"), "*BoundsTest.java")) {
            for (Path file : files) {
                Matcher m = QUOTE.matcher(Files.readString(file));
                while (m.find()) {
                    quotes.get(Integer.parseInt(m.group(1))).add(m.group(2));
                }
            }
        }
        return quotes;
    }
}
