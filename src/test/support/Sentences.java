import java.io.IOException;
import java.lang.reflect.InvocationTargetException;
import java.lang.reflect.Method;
import java.nio.file.Files;
import java.nio.file.Path;
import java.util.ArrayList;
import java.util.Comparator;
import java.util.List;

/** Tests of which each holds one sentence of the document, told by Says. */
abstract class Sentences extends Checks {
    static final int[] ENDLESS = code(JUMP, 0);
    /** Joins the task that it has just forked, and ends with its result. */
    static final int[] FORK_1_AND_JOIN = code(PUSH, 0, FORK, 1, JOIN, 0, END, 0);

    private static final Path DOCUMENT = Path.of("../shared/DOC.md");

    /** Found by what they say, so that none is forgotten. */
    static void holdAll(Class<?> tests) throws IOException, IllegalAccessException {
        String document = Files.exists(DOCUMENT) ? Files.readString(DOCUMENT) : null;
        List<Method> found = sentencesOf(tests);
        for (Method test : found) {
            Says says = test.getAnnotation(Says.class);
            tested = "promise " + says.promise() + ", \"" + says.text() + "\", " + test.getName();
            if (document != null && !document.contains(says.text())) {
                tellWrong("the document does not say this");
            }
            hold(test);
        }
        endWith(found.size() + " sentences hold");
    }

    private static List<Method> sentencesOf(Class<?> tests) {
        List<Method> found = new ArrayList<>();
        for (Method method : tests.getDeclaredMethods()) {
            if (method.isAnnotationPresent(Says.class)) {
                found.add(method);
            }
        }
        found.sort(Comparator.<Method>comparingInt(m -> m.getAnnotation(Says.class).promise())
                .thenComparing(Method::getName));
        return found;
    }

    private static void hold(Method test) throws IllegalAccessException {
        try {
            test.invoke(null);
        } catch (InvocationTargetException e) {
            tellWrong("a call with an answer that is due threw " + e.getCause());
        }
    }

    /** Rows of instructions, one behind the other. */
    static int[] all(int[]... parts) {
        int length = 0;
        for (int[] part : parts) {
            length += part.length;
        }
        int[] whole = new int[length];
        int at = 0;
        for (int[] part : parts) {
            System.arraycopy(part, 0, whole, at, part.length);
            at += part.length;
        }
        return whole;
    }

    static int[] times(int n, int... code) {
        int[][] parts = new int[n][];
        for (int i = 0; i < n; i++) {
            parts[i] = code;
        }
        return all(parts);
    }

    /** Seven instructions that put a long, with three numbers on the stack at most. */
    static int[] number(long value) {
        int low = (int) value;
        int high = (int) ((value - low) >> 32);
        return code(PUSH, high, PUSH, 1 << 16, DUP, 0, MUL, 0, MUL, 0, PUSH, low, ADD, 0);
    }

    static VersionForks ran(int[]... blocks) {
        VersionForks x = started(blocks);
        x.run(0);
        return x;
    }

    static long resultOf(int[]... parts) {
        return resultOf(all(parts));
    }

    /** Steps of a task that never ends, in few calls. */
    static void go(VersionForks x, int task, int n) {
        for (int left = n; left > 0; left -= 200) {
            x.step(task, Math.min(left, 200));
        }
    }

    static void dueTask(String what, VersionForks x, int task, int status, int code) {
        due(what + ": status of task " + task, x.task(task, 0), status);
        due(what + ": code of task " + task, x.task(task, 1), code);
    }
}
