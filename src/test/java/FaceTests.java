import java.io.IOException;
import java.lang.reflect.Constructor;
import java.lang.reflect.Field;
import java.lang.reflect.InvocationTargetException;
import java.lang.reflect.Method;
import java.lang.reflect.Modifier;
import java.nio.file.Files;
import java.nio.file.Path;
import java.util.Arrays;
import java.util.Set;
import java.util.TreeSet;
import java.util.regex.Matcher;
import java.util.regex.Pattern;

/** The face of the class, what its calls throw, and words in its source that LANGUAGE.md rules out. */
public final class FaceTests {
    private static final String[] FACE = {
        "int add(int, int) IllegalArgumentException IllegalStateException",
        "int block() IllegalStateException",
        "int count(int)",
        "int fault()",
        "int merge() IllegalStateException",
        "int run(int) IllegalStateException",
        "int step(int, int) IllegalStateException IllegalArgumentException",
        "int task(int, int) NoSuchElementException IllegalArgumentException",
        "int tasks()",
        "long print(int, int) NoSuchElementException",
        "long read(int, int) NoSuchElementException IllegalArgumentException",
        "void cell(int, int, int) IllegalArgumentException IllegalStateException",
        "void reset()",
        "void start() IllegalArgumentException",
    };

    private static final String[] RULED_OUT = {
        "->", "::", "finally", "synchronized", "assert ", "getMessage", "hashCode", "toString", "System.", "Thread",
        "Random", "HashMap", "import java.io", "package ", "try ", "static {", "Exact(",
    };

    private static final Path DOCUMENT = Path.of("../shared/DOC.md");
    private static final Pattern METHOD = Pattern.compile(" {4}public (\\w+ \\w+)\\((.*?)\\)(?: throws (.*))?;");

    private static final int[] NUMBERS = {Integer.MIN_VALUE, -1, 0, 1, 2, 3, 5, 11, 12, 18, 200, Integer.MAX_VALUE};
    private static final int STATES = 9;

    private static int wrong = 0;

    private static void due(String what, Object got, Object want) {
        if (!got.equals(want)) {
            wrong++;
            System.out.println(what + ": " + got + ", due is " + want);
        }
    }

    private static String told(Method m) {
        StringBuilder text = new StringBuilder();
        text.append(m.getReturnType()).append(' ').append(m.getName()).append('(');
        for (int i = 0; i < m.getParameterCount(); i++) {
            text.append(i == 0 ? "" : ", ").append(m.getParameterTypes()[i]);
        }
        text.append(')');
        for (Class<?> exception : m.getExceptionTypes()) {
            text.append(' ').append(exception.getSimpleName());
        }
        return text.toString();
    }

    private static void looksAtMembers(Class<?> face) {
        due("modifiers", face.getModifiers(), Modifier.PUBLIC | Modifier.FINAL);
        Set<String> shown = new TreeSet<>();
        Set<String> names = new TreeSet<>();
        for (Method m : face.getDeclaredMethods()) {
            if (!Modifier.isPrivate(m.getModifiers())) {
                shown.add(told(m));
                names.add(m.getName());
                due(m.getName() + " modifiers", m.getModifiers(), Modifier.PUBLIC);
            }
        }
        due("methods", shown, new TreeSet<>(Arrays.asList(FACE)));
        for (Method m : face.getDeclaredMethods()) {
            if (Modifier.isPrivate(m.getModifiers())) {
                due(m.getName() + " is a public name too", names.contains(m.getName()), false);
            }
        }
        for (Field f : face.getDeclaredFields()) {
            due(f.getName() + " is private", Modifier.isPrivate(f.getModifiers()), true);
        }
        for (Constructor<?> c : face.getDeclaredConstructors()) {
            due("constructor", c.toString(), "public VersionForks()");
        }
        for (Class<?> inside : face.getDeclaredClasses()) {
            due(inside.getName() + " is static", Modifier.isStatic(inside.getModifiers()), true);
            due(inside.getName() + " has few fields", inside.getDeclaredFields().length <= 20, true);
        }
        due("few classes", face.getDeclaredClasses().length < 12, true);
    }

    /** The table above is that of the document. */
    private static void looksAtTheDocument() throws IOException {
        Set<String> said = new TreeSet<>();
        for (String line : Files.readAllLines(DOCUMENT)) {
            Matcher method = METHOD.matcher(line);
            if (method.matches()) {
                String types = method.group(2).replaceAll(" \\w+(?=,|$)", "");
                String exceptions = method.group(3) == null ? "" : " " + method.group(3).replace(",", "");
                said.add(method.group(1) + "(" + types + ")" + exceptions);
            }
        }
        due("methods that the document has", said, new TreeSet<>(Arrays.asList(FACE)));
    }

    private static void tell(VersionForks x, int... code) {
        x.block();
        for (int i = 0; i < code.length; i += 2) {
            x.add(code[i], code[i + 1]);
        }
    }

    /** A new object that was brought into one of several states. */
    private static VersionForks inState(int state) {
        VersionForks x = new VersionForks();
        if (state == 1) {
            x.merge();
            x.cell(11, 3, 1);
        }
        if (state == 2) {
            tell(x, 11, 24);
        }
        if (state < 3) {
            return x;
        }
        // Task 0 forks two, joins the second and the first; task 1 goes on for ever, task 2 fails or ends.
        tell(x, 0, 0, 13, 1, 0, state == 7 ? 1 : 0, 13, 2, 14, 0, 18, 0, 14, 0, 16, 0);
        tell(x, 11, 0);
        tell(x, 1, 0, 12, 5, 0, 9, 14, 0, 18, 0, 0, 6, 15, 0, 0, 7, 16, 0);
        if (state == 3) {
            return x;
        }
        x.start();
        if (state > 4) {
            x.step(0, state == 5 ? 4 : 5);
            x.step(2, 9);
        }
        if (state > 6) {
            x.run(state);
        }
        if (state == 8) {
            x.step(0, 9);
            x.reset();
        }
        return x;
    }

    private static void callThrowsOnlyWhatIsNamed(Method method, int state, Object[] numbers)
            throws IllegalAccessException {
        try {
            method.invoke(inState(state), numbers);
        } catch (InvocationTargetException e) {
            boolean isNamed = Arrays.asList(method.getExceptionTypes()).contains(e.getCause().getClass());
            due(method.getName() + Arrays.toString(numbers) + " in state " + state + " throws " + e.getCause(),
                    isNamed, true);
        }
    }

    private static void callsThrowOnlyWhatIsNamed() throws IllegalAccessException {
        for (Method method : VersionForks.class.getDeclaredMethods()) {
            if (!Modifier.isPublic(method.getModifiers())) {
                continue;
            }
            Object[] numbers = new Object[method.getParameterCount()];
            int choices = (int) Math.pow(NUMBERS.length, numbers.length);
            for (int choice = 0; choice < choices * STATES; choice++) {
                int rest = choice / STATES;
                for (int i = 0; i < numbers.length; i++) {
                    numbers[i] = NUMBERS[rest % NUMBERS.length];
                    rest /= NUMBERS.length;
                }
                callThrowsOnlyWhatIsNamed(method, choice % STATES, numbers);
            }
        }
    }

    public static void main(String[] args) throws IOException, IllegalAccessException {
        looksAtMembers(VersionForks.class);
        if (Files.exists(DOCUMENT)) {
            looksAtTheDocument();
        }
        callsThrowOnlyWhatIsNamed();
        String source = Files.readString(Path.of("src/main/java/VersionForks.java"));
        for (String word : RULED_OUT) {
            due("the source holds '" + word + "'", source.contains(word), false);
        }
        System.out.println(wrong == 0 ? "the face is as said" : wrong + " things are not as said");
        if (wrong != 0) {
            System.exit(1);
        }
    }
}
