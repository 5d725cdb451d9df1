import java.io.IOException;
import java.lang.reflect.InvocationTargetException;
import java.lang.reflect.Method;
import java.lang.reflect.Modifier;
import java.nio.file.Files;
import java.nio.file.Path;
import java.util.Set;
import java.util.TreeSet;
import java.util.regex.Matcher;
import java.util.regex.Pattern;

/** The example of README.md is made call by call, and must answer what stands behind each call. */
public final class ReadmeTest {
    private static final Pattern EXAMPLE = Pattern.compile("```java\n(.*?)```", Pattern.DOTALL);
    private static final Pattern CALL = Pattern.compile("m\\.(\\w+)\\((.*?)\\); +// (-?\\d+).*");

    public static void main(String[] args) throws IOException {
        Matcher example = EXAMPLE.matcher(Files.readString(Path.of("README.md")));
        Check.due("README.md has an example", example.find() ? 1 : 0, 1);
        String[] lines = example.group(1).split("\n");
        Check.due("the first line", lines[0], "LazyMotion m = new LazyMotion();");
        LazyMotion m = new LazyMotion();
        Set<String> shown = new TreeSet<>();
        for (int i = 1; i < lines.length; i++) {
            if (!lines[i].isEmpty()) {
                shown.add(make(m, lines[i]));
            }
        }
        Check.due("calls that the example shows", shown.toString(), face().toString());
        Check.end("ReadmeTest");
    }

    /** The name of the call that the line makes. */
    private static String make(LazyMotion m, String line) {
        Matcher call = CALL.matcher(line);
        if (!call.matches()) {
            Check.due("a line of the example", line, "a call and its answer");
            return "";
        }
        String[] words = call.group(2).isEmpty() ? new String[0] : call.group(2).split(", ");
        Check.due(line, answer(m, call.group(1), words), call.group(3));
        return call.group(1);
    }

    private static String answer(LazyMotion m, String name, String[] words) {
        Object[] values = new Object[words.length];
        for (int i = 0; i < words.length; i++) {
            values[i] = value(words[i]);
        }
        try {
            return String.valueOf(method(name).invoke(m, values));
        } catch (InvocationTargetException e) {
            return "throws." + e.getCause().getClass().getSimpleName();
        } catch (ReflectiveOperationException | IllegalArgumentException e) {
            return "no such call: " + e;
        }
    }

    private static Object value(String word) {
        if (word.equals("true") || word.equals("false")) {
            return Boolean.valueOf(word);
        }
        return word.equals("LazyMotion.NONE") ? LazyMotion.NONE : Integer.parseInt(word);
    }

    private static Method method(String name) throws NoSuchMethodException {
        for (Method method : LazyMotion.class.getMethods()) {
            if (method.getName().equals(name)) {
                return method;
            }
        }
        throw new NoSuchMethodException(name);
    }

    private static Set<String> face() {
        Set<String> names = new TreeSet<>();
        for (Method method : LazyMotion.class.getDeclaredMethods()) {
            if (Modifier.isPublic(method.getModifiers())) {
                names.add(method.getName());
            }
        }
        return names;
    }
}
