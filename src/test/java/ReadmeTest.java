import java.io.IOException;
import java.lang.reflect.Method;
import java.nio.file.Files;
import java.nio.file.Path;
import java.util.Set;
import java.util.TreeSet;
import java.util.regex.Matcher;
import java.util.regex.Pattern;

/** The example of README.md: every call in it must give the answer that is written behind it. */
public final class ReadmeTest {
    private static final Pattern CALL =
            Pattern.compile("line\\.(\\w+)\\(([-0-9, ]*)\\); +// (-?\\d+): .*");
    private static final Due due = new Due();

    public static void main(String[] args) throws IOException, ReflectiveOperationException {
        due.topic("README.md");
        String text = Files.readString(Path.of("README.md"));
        example(text);
        everyMethodIsNamed(text);
        due.end();
    }

    private static void example(String text) throws ReflectiveOperationException {
        WebTensionLine line = new WebTensionLine();
        int calls = 0;
        for (String row : text.split("\n")) {
            if (row.startsWith("line.")) {
                Matcher call = CALL.matcher(row);
                due.holds(row, call.matches());
                if (call.matches()) {
                    due.is(row, Long.parseLong(call.group(3)),
                            answer(line, call.group(1), call.group(2)));
                    calls++;
                }
            }
        }
        due.holds("an example of more than twenty calls", calls > 20);
    }

    private static long answer(WebTensionLine line, String name, String list)
            throws ReflectiveOperationException {
        String[] texts = list.isEmpty() ? new String[0] : list.split(", ");
        Object[] arguments = new Object[texts.length];
        Class<?>[] types = new Class<?>[texts.length];
        for (int i = 0; i < texts.length; i++) {
            arguments[i] = Integer.valueOf(texts[i]);
            types[i] = int.class;
        }
        Method method = WebTensionLine.class.getMethod(name, types);
        return ((Number) method.invoke(line, arguments)).longValue();
    }

    private static void everyMethodIsNamed(String text) {
        Set<String> missing = new TreeSet<>();
        for (Method method : WebTensionLine.class.getDeclaredMethods()) {
            boolean isOfTheFace = java.lang.reflect.Modifier.isPublic(method.getModifiers());
            if (isOfTheFace && !text.contains("`" + method.getName() + "`")) {
                missing.add(method.getName());
            }
        }
        due.holds("methods that the table does not name: " + missing, missing.isEmpty());
    }
}
