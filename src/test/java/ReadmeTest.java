import java.io.IOException;
import java.lang.reflect.Method;
import java.lang.reflect.Modifier;
import java.nio.file.Files;
import java.nio.file.Path;
import java.util.regex.Matcher;
import java.util.regex.Pattern;

/** README.md's example, call by call, on one object; a reader who copies it gets the answers that it names. */
public final class ReadmeTest {
    private static final Pattern TEXT = Pattern.compile("String text = \"([^\"]*)\";");
    private static final Pattern CALL = Pattern.compile("(?m)^x\\.(\\w+)\\(([^)]*)\\); *// (-?\\d+)");

    public static void main(String[] args) throws IOException, ReflectiveOperationException {
        String readme = Files.readString(Path.of("README.md"));
        String example = between(readme, "```java\n", "```");
        Matcher text = TEXT.matcher(example);
        Check.holds("the example has a text", text.find());
        TurnedPosts x = new TurnedPosts();
        Check.feed(x, text.group(1));
        Matcher call = CALL.matcher(example);
        int calls = 0;
        while (call.find()) {
            calls++;
            Check.due("README: x." + call.group(1) + "(" + call.group(2) + ")", answer(x, call.group(1), call.group(2)),
                    Integer.parseInt(call.group(3)));
        }
        Check.due("lines of the example that name an answer", calls, example.lines().filter(line -> line.contains("//")).count());
        everyCallIsTold(readme);
        Check.end("ReadmeTest");
    }

    private static String between(String whole, String open, String close) {
        int from = whole.indexOf(open) + open.length();
        return whole.substring(from, whole.indexOf(close, from));
    }

    private static int answer(TurnedPosts x, String name, String numbers) throws ReflectiveOperationException {
        String[] given = numbers.isEmpty() ? new String[0] : numbers.split(", ");
        for (Method m : TurnedPosts.class.getDeclaredMethods()) {
            if (m.getName().equals(name) && m.getParameterCount() == given.length) {
                Object[] values = new Object[given.length];
                for (int k = 0; k < given.length; k++) {
                    values[k] = valueOf(given[k], m.getParameterTypes()[k]);
                }
                return (Integer) m.invoke(x, values);
            }
        }
        return Integer.MIN_VALUE;
    }

    private static Object valueOf(String given, Class<?> type) {
        if (type == boolean.class) {
            return Boolean.valueOf(given);
        }
        return type == long.class ? (Object) Long.valueOf(given) : (Object) Integer.valueOf(given);
    }

    private static void everyCallIsTold(String readme) {
        for (Method m : TurnedPosts.class.getDeclaredMethods()) {
            if (Modifier.isPublic(m.getModifiers())) {
                Matcher row = Pattern.compile("(?m)^\\|.*`" + m.getName() + "\\(([^)]*)\\)`.*\\|.*\\|$").matcher(readme);
                boolean told = row.find();
                Check.holds("README tells " + m.getName(), told);
                int names = told && !row.group(1).isEmpty() ? row.group(1).split(", ").length : 0;
                Check.due("parameters of " + m.getName() + " in README", names, m.getParameterCount());
            }
        }
    }
}
