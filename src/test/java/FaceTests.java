import java.io.IOException;
import java.lang.reflect.Constructor;
import java.lang.reflect.Field;
import java.lang.reflect.Method;
import java.lang.reflect.Modifier;
import java.nio.file.Files;
import java.nio.file.Path;
import java.util.Arrays;
import java.util.Set;
import java.util.TreeSet;

/** The face of the class, and words in its source that LANGUAGE.md rules out. */
public final class FaceTests {
    private static final String[] FACE = {
        "int add(int, int) IllegalArgumentException IllegalStateException",
        "int block() IllegalStateException",
        "int count(int)",
        "int fault()",
        "int merge() IllegalStateException",
        "int run(int) IllegalStateException",
        "int step(int, int) IllegalStateException IllegalArgumentException",
        "int task(int, int) NoSuchElementException IllegalArgumentException",
        "int tasks()",
        "long print(int, int) NoSuchElementException",
        "long read(int, int) NoSuchElementException IllegalArgumentException",
        "void cell(int, int, int) IllegalArgumentException IllegalStateException",
        "void reset()",
        "void start() IllegalArgumentException",
    };

    private static final String[] RULED_OUT = {
        "->", "::", "finally", "synchronized", "assert ", "getMessage", "hashCode", "toString", "System.", "Thread",
        "Random", "HashMap", "import java.io", "package ", "try ", "static {", "Exact(",
    };

    private static int wrong = 0;

    private static void due(String what, Object got, Object want) {
        if (!got.equals(want)) {
            wrong++;
            System.out.println(what + ": " + got + ", due is " + want);
        }
    }

    private static String told(Method m) {
        StringBuilder text = new StringBuilder();
        text.append(m.getReturnType()).append(' ').append(m.getName()).append('(');
        for (int i = 0; i < m.getParameterCount(); i++) {
            text.append(i == 0 ? "" : ", ").append(m.getParameterTypes()[i]);
        }
        text.append(')');
        for (Class<?> exception : m.getExceptionTypes()) {
            text.append(' ').append(exception.getSimpleName());
        }
        return text.toString();
    }

    private static void looksAtMembers(Class<?> face) {
        due("modifiers", face.getModifiers(), Modifier.PUBLIC | Modifier.FINAL);
        Set<String> shown = new TreeSet<>();
        Set<String> names = new TreeSet<>();
        for (Method m : face.getDeclaredMethods()) {
            if (!Modifier.isPrivate(m.getModifiers())) {
                shown.add(told(m));
                names.add(m.getName());
                due(m.getName() + " modifiers", m.getModifiers(), Modifier.PUBLIC);
            }
        }
        due("methods", shown, new TreeSet<>(Arrays.asList(FACE)));
        for (Method m : face.getDeclaredMethods()) {
            if (Modifier.isPrivate(m.getModifiers())) {
                due(m.getName() + " is a public name too", names.contains(m.getName()), false);
            }
        }
        for (Field f : face.getDeclaredFields()) {
            due(f.getName() + " is private", Modifier.isPrivate(f.getModifiers()), true);
        }
        for (Constructor<?> c : face.getDeclaredConstructors()) {
            due("constructor", c.toString(), "public VersionForks()");
        }
        for (Class<?> inside : face.getDeclaredClasses()) {
            due(inside.getName() + " is static", Modifier.isStatic(inside.getModifiers()), true);
            due(inside.getName() + " has few fields", inside.getDeclaredFields().length <= 20, true);
        }
        due("few classes", face.getDeclaredClasses().length < 12, true);
    }

    public static void main(String[] args) throws IOException {
        looksAtMembers(VersionForks.class);
        String source = Files.readString(Path.of("src/main/java/VersionForks.java"));
        for (String word : RULED_OUT) {
            due("the source holds '" + word + "'", source.contains(word), false);
        }
        System.out.println(wrong == 0 ? "the face is as said" : wrong + " things are not as said");
        if (wrong != 0) {
            System.exit(1);
        }
    }
}
