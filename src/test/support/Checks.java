import java.util.NoSuchElementException;

/** What tests share: names of operations, programs made of rows, and answers held against those that are due. */
abstract class Checks {
    static final int PUSH = 0, LOAD = 1, STORE = 2, READ = 3, WRITE = 4, ADD = 5, SUB = 6, MUL = 7, AND = 8, OR = 9,
            LESS = 10, JUMP = 11, ZERO = 12, FORK = 13, JOIN = 14, PRINT = 15, END = 16, DUP = 17, POP = 18;

    static final Class<?> STATE = IllegalStateException.class;
    static final Class<?> ARGUMENT = IllegalArgumentException.class;
    static final Class<?> ELEMENT = NoSuchElementException.class;

    static final int[] JUST_END = code(PUSH, 0, END, 0);

    /** What is tested now, for the lines that tell a wrong answer. */
    static String tested = "";
    private static int wrong = 0;

    interface Call {
        long answer();
    }

    static void tellWrong(String what) {
        wrong++;
        System.out.println(tested + ": " + what);
    }

    static void due(String what, long got, long want) {
        if (got != want) {
            tellWrong(what + " answered " + got + ", due is " + want);
        }
    }

    static void refused(String what, Class<?> kind, Call call) {
        String got;
        try {
            got = "" + call.answer();
        } catch (RuntimeException e) {
            if (e.getClass() == kind) {
                return;
            }
            got = e.toString();
        }
        tellWrong(what + " answered " + got + ", due is " + kind.getSimpleName());
    }

    /** The last words of a test: ends it with 1 if an answer was wrong. */
    static void endWith(String allRight) {
        System.out.println(wrong == 0 ? allRight : wrong + " answers are not as due");
        if (wrong != 0) {
            System.exit(1);
        }
    }

    static Call cell(VersionForks x, int cell, int kind, int merge) {
        return () -> {
            x.cell(cell, kind, merge);
            return 0;
        };
    }

    static Call start(VersionForks x) {
        return () -> {
            x.start();
            return 0;
        };
    }

    /** Operations and arguments in turn. */
    static int[] code(int... code) {
        return code;
    }

    static void fill(VersionForks x, int... code) {
        for (int i = 0; i < code.length; i += 2) {
            x.add(code[i], code[i + 1]);
        }
    }

    static VersionForks program(int[]... blocks) {
        VersionForks x = new VersionForks();
        for (int[] block : blocks) {
            x.block();
            fill(x, block);
        }
        return x;
    }

    static VersionForks started(int[]... blocks) {
        VersionForks x = program(blocks);
        x.start();
        return x;
    }

    /** What a program of one block ends with. */
    static long resultOf(int... block) {
        VersionForks x = started(block);
        x.run(0);
        return x.print(0, -1);
    }

    static int faultOf(int[]... blocks) {
        return program(blocks).fault();
    }

    static int faultOfMerge(int... code) {
        VersionForks x = program(JUST_END);
        x.merge();
        fill(x, code);
        return x.fault();
    }

    /** A block that prints times, times - 1 .. 1 and ends with 5. */
    static int[] prints(int times) {
        return code(PUSH, times, STORE, 1, LOAD, 1, ZERO, 10, LOAD, 1, PRINT, 0, LOAD, 1, PUSH, -1, ADD, 0, JUMP, 1,
                PUSH, 5, END, 0);
    }
}
