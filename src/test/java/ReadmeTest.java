import java.io.IOException;
import java.lang.reflect.InvocationTargetException;
import java.lang.reflect.Method;
import java.lang.reflect.Modifier;
import java.nio.file.Files;
import java.nio.file.Path;
import java.util.List;
import java.util.regex.Matcher;
import java.util.regex.Pattern;

/** What README.md shows as an example answers as it says, and README.md names every call. */
public final class ReadmeTest {
    private static final Path README = Path.of("README.md");
    private static final String NEW_OBJECT = "GasNominations x = new GasNominations();";
    private static final Pattern CALL = Pattern.compile("x\\.(\\w+)\\(([^)]*)\\);\\s+// (-?\\d+)(: .*)?");
    private static final Pattern SHOWN_TEXT = Pattern.compile(": \"([^\"]*)\".*");
    private static final Check CHECK = new Check("readme");

    private GasNominations x = null;
    private final StringBuilder shownText = new StringBuilder();

    private ReadmeTest() {
    }

    public static void main(String[] args) throws IOException, ReflectiveOperationException {
        List<String> lines = Files.readAllLines(README);
        ReadmeTest test = new ReadmeTest();
        test.example(lines);
        test.shownTextIsThePipe();
        namesEveryCall(String.join("\n", lines));
        CHECK.finish();
    }

    private void example(List<String> lines) throws ReflectiveOperationException {
        boolean inside = false;
        int calls = 0;
        for (String line : lines) {
            if (line.startsWith("```")) {
                inside = line.equals("```java");
            } else if (inside && line.equals(NEW_OBJECT)) {
                x = new GasNominations();
            } else if (inside && !line.isBlank() && !line.startsWith("//")) {
                call(line);
                calls++;
            }
        }
        CHECK.isTrue("an example is shown", calls > 0);
    }

    private void call(String line) throws ReflectiveOperationException {
        Matcher m = CALL.matcher(line);
        boolean isCall = m.matches() && x != null;
        CHECK.isTrue("a call with its answer: " + line, isCall);
        if (!isCall) {
            return;
        }
        CHECK.due(line, answer(m.group(1), m.group(2)), Long.parseLong(m.group(3)));
        if (m.group(1).equals("feed")) {
            Matcher shown = SHOWN_TEXT.matcher(m.group(4) == null ? "" : m.group(4));
            CHECK.isTrue("the text of " + line, shown.matches());
            shownText.append(shown.matches() ? shown.group(1) : "");
        }
    }

    private long answer(String name, String list) throws IllegalAccessException, InvocationTargetException {
        String[] words = list.isEmpty() ? new String[0] : list.split(", ");
        for (Method method : GasNominations.class.getMethods()) {
            if (method.getName().equals(name) && method.getParameterCount() == words.length) {
                Object[] values = new Object[words.length];
                for (int i = 0; i < words.length; i++) {
                    values[i] = method.getParameterTypes()[i] == boolean.class
                        ? (Object) Boolean.valueOf(words[i]) : (Object) Long.decode(words[i]).intValue();
                }
                return ((Number) method.invoke(x, values)).longValue();
            }
        }
        throw new IllegalArgumentException("no such call: " + name + "(" + list + ")");
    }

    private void shownTextIsThePipe() {
        CHECK.isTrue("the text behind the feeds is the pipe's: " + shownText,
            x != null && shownText.toString().equals(Texts.letter(x)));
    }

    private static void namesEveryCall(String readme) {
        for (Method method : GasNominations.class.getDeclaredMethods()) {
            if (Modifier.isPublic(method.getModifiers())) {
                CHECK.isTrue("README.md names " + method.getName(), readme.contains("`" + method.getName() + "`"));
            }
        }
    }
}
