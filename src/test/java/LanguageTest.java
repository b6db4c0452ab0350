import java.io.IOException;
import java.nio.file.Files;
import java.nio.file.Path;
import java.util.List;
import java.util.Set;
import java.util.TreeSet;
import java.util.regex.Matcher;
import java.util.regex.Pattern;

/** What of LANGUAGE.md can be seen in the source's own words: rules 2 to 6, 11, 12 and 13. */
public final class LanguageTest {
    private static final List<String> WORDS_OUT = List.of("throw", "throws", "try", "catch", "finally", "synchronized",
            "assert", "import", "package", "protected", "volatile", "transient", "native", "goto", "Object", "Thread",
            "Exception", "Random", "Runtime", "hashCode", "toString", "getClass", "NaN", "var");
    /** Of the library only these are used; one more must be looked up in rule 4 and written here. */
    private static final Set<String> LIBRARY = Set.of("Integer.bitCount", "Math.min", "Math.floorMod", "System.arraycopy");
    private static final int LONGEST = 60;

    public static void main(String[] args) throws IOException {
        List<String> lines = Files.readAllLines(Path.of("src/main/java/TurnedPosts.java"));
        String code = withoutComments(String.join("\n", lines));
        for (String word : WORDS_OUT) {
            Check.holds("no word " + word, !Pattern.compile("\\b" + word + "\\b").matcher(code).find());
        }
        Check.holds("no lambda", !code.contains("->"));
        Check.holds("no method reference", !code.contains("::"));
        Check.holds("no wildcard loops", !Pattern.compile("while\\s*\\(\\s*true").matcher(code).find());
        Check.holds("no endless for", !Pattern.compile("for\\s*\\([^;]*;\\s*;").matcher(code).find());
        Check.holds("plain signs alone", code.chars().allMatch(c -> c == '\n' || c >= 32 && c < 127));
        library(code);
        objectsOnlyInConstructors(code);
        methodsAreShort(lines);
        Check.end("LanguageTest");
    }

    private static String withoutComments(String source) {
        return source.replaceAll("(?s)/\\*.*?\\*/", "").replaceAll("//[^\n]*", "");
    }

    private static void library(String code) {
        Set<String> used = new TreeSet<>();
        Matcher m = Pattern.compile("\\b(Integer|Long|Math|System|Arrays|String|Character|List|StringBuilder)\\.(\\w+)").matcher(code);
        while (m.find()) {
            used.add(m.group());
        }
        Check.holds("library used " + used, LIBRARY.containsAll(used));
    }

    /** So that no run of calls, however long, makes more than its first call did. */
    private static void objectsOnlyInConstructors(String code) {
        int made = 0;
        for (String line : code.split("\n")) {
            if (line.contains("new ")) {
                made++;
                boolean field = line.matches("        private final int\\[\\] \\w+ = new int\\[.*\\];");
                boolean inConstructor = line.matches("        (    )?\\w+ = new \\w+\\(.*\\);");
                Check.holds("made when the object is made: " + line.trim(), field || inConstructor);
            }
        }
        Check.holds("something is made", made > 0);
    }

    private static void methodsAreShort(List<String> lines) {
        int from = 0;
        for (int k = 0; k < lines.size(); k++) {
            String line = lines.get(k);
            if (line.matches(" {4,8}(public |private |static |final )*[\\w\\[\\]]+ \\w+\\(.*\\) \\{")) {
                from = k;
            }
            if (line.matches(" {4,8}\\}") && from > 0) {
                Check.holds("short: " + lines.get(from).trim(), k - from < LONGEST || lines.get(from).contains("class"));
                from = 0;
            }
        }
    }
}
