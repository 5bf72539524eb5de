import java.io.IOException;
import java.lang.reflect.InvocationTargetException;
import java.lang.reflect.Method;
import java.lang.reflect.Modifier;
import java.nio.file.Files;
import java.nio.file.Path;
import java.util.Arrays;
import java.util.regex.Matcher;
import java.util.regex.Pattern;

/** README.md: it names each call of the class, and its example tells the answers that the class gives. */
public final class ReadmeTests extends Checks {
    private static final Pattern EXAMPLE = Pattern.compile("```java\n(.*?)```", Pattern.DOTALL);
    private static final Pattern CALL = Pattern.compile("x\\.(\\w+)\\(([-0-9, ]*)\\);\\s*// (.*)");
    private static final Pattern ANSWER = Pattern.compile("(-?\\d+|throws \\w+)(:.*)?");

    private static void namesEachCall(String readme) {
        for (Method method : VersionForks.class.getDeclaredMethods()) {
            if (Modifier.isPublic(method.getModifiers()) && !readme.contains("| `" + method.getName() + "(")) {
                tellWrong("it does not tell of " + method.getName());
            }
        }
    }

    private static Method methodOf(String name) {
        for (Method method : VersionForks.class.getDeclaredMethods()) {
            if (method.getName().equals(name) && Modifier.isPublic(method.getModifiers())) {
                return method;
            }
        }
        throw new IllegalArgumentException("no call " + name);
    }

    /** What a call answers, as the example writes it; nothing for one that answers nothing. */
    private static String answer(VersionForks x, Method method, String numbers) throws IllegalAccessException {
        Object[] arguments = numbers.isEmpty() ? new Object[0]
                : Arrays.stream(numbers.split(", *")).map(Integer::valueOf).toArray();
        try {
            Object got = method.invoke(x, arguments);
            return got == null ? "" : got.toString();
        } catch (InvocationTargetException e) {
            return "throws " + e.getCause().getClass().getSimpleName();
        }
    }

    private static int holdExample(String example) throws IllegalAccessException {
        VersionForks x = new VersionForks();
        String[] lines = example.split("\n");
        if (!lines[0].equals("VersionForks x = new VersionForks();")) {
            tellWrong("the example does not begin with a new object");
        }
        for (int i = 1; i < lines.length; i++) {
            tested = "README.md, " + lines[i];
            Matcher call = CALL.matcher(lines[i]);
            if (!call.matches()) {
                tellWrong("is no call with an answer");
                continue;
            }
            Method method = methodOf(call.group(1));
            Matcher told = ANSWER.matcher(call.group(3));
            String want = told.matches() ? told.group(1) : "";
            String got = answer(x, method, call.group(2));
            if (!got.equals(want)) {
                tellWrong("answered '" + got + "'");
            }
        }
        return lines.length - 1;
    }

    public static void main(String[] args) throws IOException, IllegalAccessException {
        tested = "README.md";
        String readme = Files.readString(Path.of("README.md"));
        namesEachCall(readme);
        Matcher example = EXAMPLE.matcher(readme);
        int calls = example.find() ? holdExample(example.group(1)) : 0;
        tested = "README.md";
        if (calls == 0) {
            tellWrong("has no example");
        }
        endWith(calls + " calls of README.md answer as it tells");
    }
}
