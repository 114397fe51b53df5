import java.io.IOException;
import java.lang.reflect.Method;
import java.lang.reflect.Modifier;
import java.nio.file.Files;
import java.nio.file.Path;
import java.util.ArrayList;
import java.util.List;
import java.util.regex.Matcher;
import java.util.regex.Pattern;

/** What README.md shows is so: each call of its example gives the answer that stands beside it. */
public final class ReadmeTest extends TestBase {
    private static final Pattern MADE =
            Pattern.compile("LeasedViewStore store = new LeasedViewStore\\((\\d+)\\);");
    private static final Pattern CALL =
            Pattern.compile("store\\.(\\w+)\\(([^)]*)\\);\\s+// (-?\\d+|true|false)(:.*)?");

    private static LeasedViewStore store;

    public static void main(String[] args) throws IOException, ReflectiveOperationException {
        Path root = Path.of(System.getProperty("project.root", "."));
        String text = Files.readString(root.resolve("README.md"));
        about("README.md");
        List<String> lines = exampleLines(text);
        due("there is an example", lines.size() > 1, true);
        for (String line : lines) {
            run(line);
        }
        tellsEveryCall(text);
        end();
    }

    private static List<String> exampleLines(String text) {
        List<String> lines = new ArrayList<>();
        boolean inside = false;
        for (String line : text.lines().toList()) {
            if (line.startsWith("```")) {
                inside = line.equals("```java");
            } else if (inside) {
                lines.add(line);
            }
        }
        return lines;
    }

    private static void run(String line) throws ReflectiveOperationException {
        Matcher made = MADE.matcher(line);
        if (made.matches()) {
            store = new LeasedViewStore(Integer.parseInt(made.group(1)));
            return;
        }
        Matcher call = CALL.matcher(line);
        boolean readable = call.matches() && store != null;
        due("is a call with its answer: " + line, readable, true);
        if (readable) {
            String[] words = call.group(2).isEmpty() ? new String[0] : call.group(2).split(", ");
            Object answer = method(call.group(1)).invoke(store, arguments(words));
            due(line + " (it answers " + answer + ")", answer.toString().equals(call.group(3)), true);
        }
    }

    private static Method method(String name) throws NoSuchMethodException {
        for (Method m : LeasedViewStore.class.getDeclaredMethods()) {
            if (Modifier.isPublic(m.getModifiers()) && m.getName().equals(name)) {
                return m;
            }
        }
        throw new NoSuchMethodException(name);
    }

    private static Object[] arguments(String[] words) {
        Object[] arguments = new Object[words.length];
        for (int i = 0; i < words.length; i++) {
            boolean truth = words[i].equals("true") || words[i].equals("false");
            arguments[i] = truth ? (Object) Boolean.valueOf(words[i]) : (Object) Integer.valueOf(words[i]);
        }
        return arguments;
    }

    private static void tellsEveryCall(String text) {
        for (Method m : LeasedViewStore.class.getDeclaredMethods()) {
            if (Modifier.isPublic(m.getModifiers())) {
                due("tells of " + m.getName(), text.contains("`" + m.getName() + "("), true);
            }
        }
    }
}
