import java.io.IOException;
import java.lang.reflect.Constructor;
import java.lang.reflect.Field;
import java.lang.reflect.Method;
import java.lang.reflect.Modifier;
import java.nio.file.Files;
import java.nio.file.Path;
import java.util.Arrays;
import java.util.Set;
import java.util.TreeSet;
import java.util.regex.Matcher;
import java.util.regex.Pattern;

/** The face is the document's and no more, and the source keeps to what of LANGUAGE.md can be seen in a text. */
public final class FaceTest {
    private static final Path SOURCE = Path.of("src/main/java/LazyMotion.java");
    private static final String[] FACE = {
        "public int LazyMotion.block() throws IllegalStateException",
        "public int LazyMotion.statement(int,int,int,int,int) throws IllegalArgumentException,IllegalStateException",
        "public int LazyMotion.end(int,int,int,int,int) throws IllegalArgumentException",
        "public int LazyMotion.plan() throws IllegalStateException,UnsupportedOperationException",
        "public long LazyMotion.set(int,int) throws IllegalStateException,IndexOutOfBoundsException",
        "public long LazyMotion.put(int,int) throws IllegalStateException,NoSuchElementException",
        "public int LazyMotion.expression(int,int,int) throws NoSuchElementException",
        "public int LazyMotion.run(boolean,int,int,int) throws IllegalStateException",
        "public int LazyMotion.outs()",
        "public int LazyMotion.out(int) throws IndexOutOfBoundsException",
        "public int LazyMotion.variable(int) throws IndexOutOfBoundsException",
        "public int LazyMotion.computed(int)",
        "public int LazyMotion.count(int) throws IndexOutOfBoundsException",
    };
    private static final String[] REFUSED = {
        "->", "::", "\\bfinally\\b", "\\bsynchronized\\b", "\\bassert\\b", "Exact\\(", "System\\.(?!arraycopy)",
        "\\bprotected\\b", "\\bpackage\\b",
    };

    public static void main(String[] args) throws IOException {
        methods();
        fieldsAndConstructors();
        classesInside();
        source();
        Check.end("FaceTest");
    }

    private static void methods() {
        Set<String> got = new TreeSet<>();
        Set<String> names = new TreeSet<>();
        for (Method m : LazyMotion.class.getDeclaredMethods()) {
            if (!Modifier.isPrivate(m.getModifiers())) {
                got.add(m.toString().replaceAll("java\\.(lang|util)\\.", ""));
                names.add(m.getName());
            }
        }
        Check.due("methods", String.join("\n", got), String.join("\n", new TreeSet<>(Arrays.asList(FACE))));
        for (Method m : LazyMotion.class.getDeclaredMethods()) {
            boolean hides = Modifier.isPrivate(m.getModifiers()) && names.contains(m.getName());
            Check.due("private " + m.getName() + " bears the name of a public one", hides ? 1 : 0, 0);
        }
    }

    private static void fieldsAndConstructors() {
        Check.due("class", Modifier.toString(LazyMotion.class.getModifiers()), "public final");
        for (Field f : LazyMotion.class.getDeclaredFields()) {
            boolean seen = !Modifier.isPrivate(f.getModifiers());
            Check.due("field " + f.getName() + " can be seen", seen ? 1 : 0, f.getName().equals("NONE") ? 1 : 0);
        }
        Check.due("NONE", noneOfFace(), "public static final int LazyMotion.NONE");
        Constructor<?>[] all = LazyMotion.class.getDeclaredConstructors();
        Check.due("constructors", Arrays.toString(all), "[public LazyMotion()]");
    }

    private static String noneOfFace() {
        try {
            return LazyMotion.class.getField("NONE").toString();
        } catch (NoSuchFieldException e) {
            return "nothing";
        }
    }

    private static void classesInside() {
        Class<?>[] inside = LazyMotion.class.getDeclaredClasses();
        Check.due("classes are some twelve at most", inside.length < 12 ? 1 : 0, 1);
        sizes(LazyMotion.class);
        for (Class<?> c : inside) {
            int m = c.getModifiers();
            boolean good = Modifier.isStatic(m) && !Modifier.isPublic(m) && !Modifier.isProtected(m);
            Check.due("class " + c.getSimpleName() + " is static and not public", good ? 1 : 0, 1);
            sizes(c);
        }
    }

    /** Rules 5 and 11: what is static is final, and a class has few fields, a method few parameters. */
    private static void sizes(Class<?> c) {
        int fields = 0;
        for (Field f : c.getDeclaredFields()) {
            boolean loose = Modifier.isStatic(f.getModifiers()) && !Modifier.isFinal(f.getModifiers());
            Check.due(c.getSimpleName() + "." + f.getName() + " is static, not final", loose ? 1 : 0, 0);
            fields += Modifier.isStatic(f.getModifiers()) ? 0 : 1;
        }
        Check.due("fields of " + c.getSimpleName() + " are few", fields <= 20 ? 1 : 0, 1);
        for (Method m : c.getDeclaredMethods()) {
            Check.due("parameters of " + m.getName() + " are few", m.getParameterCount() <= 7 ? 1 : 0, 1);
        }
    }

    private static void source() throws IOException {
        String text = Files.readString(SOURCE);
        String code = text.replaceAll("(?s)/\\*.*?\\*/", "").replaceAll("//.*", "").replaceAll("\"[^\"]*\"", "\"\"");
        for (String refused : REFUSED) {
            Matcher m = Pattern.compile(refused).matcher(code);
            Check.due("the source has " + refused, m.find() ? 1 : 0, 0);
        }
        Matcher imports = Pattern.compile("import ([^;]*);").matcher(code);
        while (imports.find()) {
            boolean known = Set.of("java.util.Arrays", "java.util.NoSuchElementException").contains(imports.group(1));
            Check.due("import " + imports.group(1), known ? 1 : 0, 1);
        }
    }
}
