import java.io.IOException;

/** Promises 9 and 10: each sentence that names an edge of operations, steps and runs. */
public final class StepEdgeTests extends Sentences {
    public static void main(String[] args) throws IOException, IllegalAccessException {
        holdAll(StepEdgeTests.class);
    }

    // Promise 9: operations

    @Says(promise = 9, text = "(longs; all reckoning drops what lies beyond 64 bits)")
    static void reckoningWrapsAround() {
        int[] least = number(Long.MIN_VALUE);
        int[] greatest = number(Long.MAX_VALUE);
        due("the least number", resultOf(least, code(END, 0)), Long.MIN_VALUE);
        due("the greatest number", resultOf(greatest, code(END, 0)), Long.MAX_VALUE);
        due("ADD", resultOf(greatest, code(PUSH, 1, ADD, 0, END, 0)), Long.MIN_VALUE);
        due("SUB", resultOf(least, code(PUSH, 1, SUB, 0, END, 0)), Long.MAX_VALUE);
        due("MUL", resultOf(greatest, code(PUSH, 2, MUL, 0, END, 0)), -2);
        due("MUL of the least", resultOf(least, code(PUSH, -1, MUL, 0, END, 0)), Long.MIN_VALUE);
        due("MUL to nothing", resultOf(least, code(PUSH, 2, MUL, 0, END, 0)), 0);
        due("AND", resultOf(least, code(PUSH, -1, AND, 0, END, 0)), Long.MIN_VALUE);
        due("OR", resultOf(least, greatest, code(OR, 0, END, 0)), -1);
    }

    @Says(promise = 9, text = "(take y, then x below it; put x op y, for LESS 1 or 0)")
    static void lessIsOneOrZero() {
        int[] least = number(Long.MIN_VALUE);
        int[] greatest = number(Long.MAX_VALUE);
        due("the least is less", resultOf(least, greatest, code(LESS, 0, END, 0)), 1);
        due("the greatest is not", resultOf(greatest, least, code(LESS, 0, END, 0)), 0);
        due("equals are not", resultOf(greatest, greatest, code(LESS, 0, END, 0)), 0);
        due("one less", resultOf(code(PUSH, 4, PUSH, 5, LESS, 0, END, 0)), 1);
        due("SUB takes y first", resultOf(code(PUSH, 4, PUSH, 5, SUB, 0, END, 0)), -1);
    }

    @Says(promise = 9, text = "0 PUSH a.")
    static void pushKeepsTheSign() {
        due("the least", resultOf(code(PUSH, Integer.MIN_VALUE, END, 0)), Integer.MIN_VALUE);
        due("the greatest", resultOf(code(PUSH, Integer.MAX_VALUE, END, 0)), Integer.MAX_VALUE);
        due("-1", resultOf(code(PUSH, -1, END, 0)), -1);
    }

    @Says(promise = 9, text = "1 LOAD a, 2 STORE a (local a, 0 .. 3; STORE takes it).")
    static void theFirstAndTheLastLocal() {
        for (int local = 0; local < 4; local++) {
            int other = 3 - local;
            due("local " + local, resultOf(code(PUSH, 7, PUSH, 8, STORE, local, LOAD, local, ADD, 0, END, 0)), 15);
            due("local " + other + " stays", resultOf(code(PUSH, 8, STORE, local, LOAD, other, END, 0)), 0);
        }
    }

    @Says(promise = 9, text = "3 READ a, 4 WRITE a (cell a; WRITE takes it).")
    static void theFirstAndTheLastCell() {
        for (int cell : code(0, 11)) {
            due("cell " + cell, resultOf(code(PUSH, 7, PUSH, 8, WRITE, cell, READ, cell, ADD, 0, END, 0)), 15);
            due("the other", resultOf(code(PUSH, 8, WRITE, cell, READ, 11 - cell, END, 0)), 0);
        }
    }

    @Says(promise = 9, text = "12 ZERO a (takes x; to instruction a if x is 0).")
    static void zeroLooksAtAllBits() {
        int[] tail = code(ZERO, 10, PUSH, 1, END, 0, PUSH, 2, END, 0);
        due("0", resultOf(number(0), tail), 2);
        due("1", resultOf(number(1), tail), 1);
        due("-1", resultOf(number(-1), tail), 1);
        due("bit 32", resultOf(number(1L << 32), tail), 1);
        due("bit 63", resultOf(number(Long.MIN_VALUE), tail), 1);
    }

    @Says(promise = 9, text = "13 FORK a (takes x; a new task in block a, with x in its local 0: puts its number).")
    static void forkHandsOnAllBits() {
        int[] child = code(LOAD, 0, END, 0);
        for (long x : new long[] {0, -1, 1L << 32, Long.MIN_VALUE, Long.MAX_VALUE}) {
            due("x " + x, ran(all(number(x), code(FORK, 1, JOIN, 0, END, 0)), child).print(0, -1), x);
        }
        VersionForks x = ran(code(PUSH, 5, PUSH, 6, FORK, 1, ADD, 0, END, 0), child);
        due("it takes x and puts the number", x.print(0, -1), 6);
    }

    @Says(promise = 9, text = "14 JOIN (takes the number of a task; puts its RESULT).")
    static void joinPutsTheResultAlone() {
        int[] child = all(number(Long.MIN_VALUE), code(END, 0));
        due("all bits of it", ran(FORK_1_AND_JOIN, child).print(0, -1), Long.MIN_VALUE);
        VersionForks x = ran(code(PUSH, 5, PUSH, 6, FORK, 1, JOIN, 0, ADD, 0, END, 0), code(PUSH, 9, END, 0));
        due("it takes the number", x.print(0, -1), 14);
    }

    @Says(promise = 9, text = "15 PRINT (takes). 16 END (takes the task's result). 17 DUP. 18 POP.")
    static void whatLiesBelowStays() {
        due("below PRINT", resultOf(code(PUSH, 5, PUSH, 6, PRINT, 0, END, 0)), 5);
        due("below END", resultOf(code(PUSH, 5, PUSH, 6, END, 0)), 6);
        due("below DUP", resultOf(code(PUSH, 5, PUSH, 6, DUP, 0, POP, 0, POP, 0, END, 0)), 5);
        due("below POP", resultOf(code(PUSH, 5, PUSH, 6, POP, 0, END, 0)), 5);
    }

    @Says(promise = 9, text = "13 FORK a (takes x; a new task in block a, with x in its local 0: puts its number).")
    static void aBlockMayForkItself() {
        due("result", resultOf(code(LOAD, 0, ZERO, 4, PUSH, 77, END, 0, PUSH, 1, FORK, 0, JOIN, 0, END, 0)), 77);
    }

    @Says(promise = 9, text = "where a task begins, in a block, its stack is empty and its locals are 0, but local"
            + " 0.")
    static void aTaskBeginsWithEmptyLocals() {
        VersionForks x = program(
                code(LOAD, 0, PRINT, 0, PUSH, 5, STORE, 0, PUSH, 5, STORE, 1, PUSH, 5, STORE, 3, PUSH, 40, FORK, 1,
                        JOIN, 0, END, 0),
                code(LOAD, 0, LOAD, 1, ADD, 0, LOAD, 2, ADD, 0, LOAD, 3, ADD, 0, PUSH, 9, STORE, 1, PUSH, 9, STORE, 2,
                        PUSH, 9, STORE, 3, END, 0));
        for (int i = 0; i < 3; i++) {
            x.start();
            x.run(0);
            due("the locals of task 1 in run " + i, x.print(0, -1), 40);
            due("local 0 of task 0 in run " + i, x.print(0, 0), 0);
        }
    }

    @Says(promise = 9, text = "where a task begins, in a block, its stack is empty and its locals are 0, but local"
            + " 0.")
    static void aTaskBeginsWithAnEmptyStack() {
        VersionForks x = program(code(PUSH, 1, PUSH, 2, PUSH, 3, PUSH, 4, PUSH, 0, FORK, 1, JOIN, 0, END, 0),
                all(times(6, PUSH, 7), times(4, ADD, 0), code(END, 0)));
        for (int i = 0; i < 5; i++) {
            x.start();
            x.run(0);
            due("result of run " + i, x.print(0, -1), 35);
        }
    }

    // Promise 9: step

    @Says(promise = 9, text = "At most n (1 .. 200) steps of a task: how many were done")
    static void nIs1To200() {
        VersionForks x = started(ENDLESS);
        due("1", x.step(0, 1), 1);
        due("199", x.step(0, 199), 199);
        due("200", x.step(0, 200), 200);
        for (int n : code(Integer.MIN_VALUE, -200, -1, 0, 201, 202, Integer.MAX_VALUE)) {
            refused("n " + n, ARGUMENT, () -> x.step(0, n));
        }
        due("what is refused does nothing", x.task(0, 3), 400);
    }

    @Says(promise = 9, text = "IllegalStateException: nothing runs, or no such task; IllegalArgumentException:"
            + " another n.")
    static void noSuchTaskGoes() {
        VersionForks x = program(FORK_1_AND_JOIN, JUST_END);
        refused("nothing runs", STATE, () -> x.step(0, 1));
        x.start();
        for (int task : code(Integer.MIN_VALUE, -1, 1, 2, 12, Integer.MAX_VALUE)) {
            refused("task " + task, STATE, () -> x.step(task, 1));
        }
        x.step(0, 2);
        due("task 1 is there behind its fork", x.step(1, 1), 1);
        refused("task 2", STATE, () -> x.step(2, 1));
        x.run(0);
        refused("n 0 of one that is over", ARGUMENT, () -> x.step(0, 0));
        x.reset();
        refused("behind reset", STATE, () -> x.step(0, 1));
    }

    @Says(promise = 9, text = "(it stops behind a JOIN that waits, or when it is over: 0 of one that is over)")
    static void stepStopsBehindAJoinThatWaits() {
        VersionForks x = started(FORK_1_AND_JOIN, ENDLESS);
        due("two, and the JOIN", x.step(0, 200), 3);
        due("the JOIN again", x.step(0, 200), 1);
        due("with n 1", x.step(0, 1), 1);
        due("all are steps", x.task(0, 3), 5);
    }

    @Says(promise = 9, text = "(it stops behind a JOIN that waits, or when it is over: 0 of one that is over)")
    static void stepStopsWhenTheTaskIsOver() {
        VersionForks x = started(FORK_1_AND_JOIN, code(PUSH, 5, END, 0));
        x.step(0, 2);
        due("with END", x.step(1, 200), 2);
        due("of one that ended", x.step(1, 200), 0);
        due("a JOIN that need not wait goes on", x.step(0, 200), 2);
        due("of one that was joined", x.step(1, 1), 0);
        VersionForks y = started(code(PUSH, 0, JOIN, 0, END, 0));
        due("with a failure", y.step(0, 200), 2);
        due("of one that failed", y.step(0, 200), 0);
        due("steps stay", y.task(0, 3), 2);
    }

    @Says(promise = 9, text = "a JOIN that waits is a step, too, without effect.")
    static void aJoinThatWaitsHasNoEffect() {
        VersionForks x = started(code(PUSH, 5, PRINT, 0, PUSH, 0, FORK, 1, JOIN, 0, END, 0),
                code(PUSH, 6, PRINT, 0, PUSH, 7, WRITE, 0, JUMP, 4));
        x.step(0, 4);
        x.step(1, 4);
        x.step(0, 1);
        due("steps", x.task(0, 3), 5);
        due("prints", x.task(0, 4), 1);
        due("its cell", x.read(0, 0), 0);
        due("segments", x.count(0), 3);
        due("brought", x.count(2), 0);
        dueTask("the joiner", x, 0, 0, 0);
        dueTask("the other", x, 1, 0, 0);
    }

    @Says(promise = 9, text = "A JOIN waits until the task has ended (then it is done by a later step)")
    static void aJoinIsDoneByALaterStep() {
        VersionForks x = started(FORK_1_AND_JOIN, code(PUSH, 7, WRITE, 0, PUSH, 5, END, 0));
        x.step(0, 3);
        x.step(1, 3);
        due("not yet ended", x.step(0, 9), 1);
        x.step(1, 1);
        due("ended, not joined", x.task(1, 0), 1);
        due("the joiner does not have it by that", x.read(0, 0), 0);
        due("a later step", x.step(0, 1), 1);
        due("joined", x.task(1, 0), 3);
        due("the joiner has it", x.read(0, 0), 7);
        due("and ends", x.step(0, 9), 1);
        due("result", x.print(0, -1), 5);
    }

    // Promise 9: steps of the whole run

    @Says(promise = 9, text = "steps of the whole run above 2000 (the step that would be one more fails its task"
            + " instead, and is none)")
    static void theStep2000IsStillDone() {
        VersionForks x = started(code(PUSH, 0, FORK, 1, POP, 0, PUSH, 7, END, 0), ENDLESS);
        x.step(0, 2);
        go(x, 1, 1995);
        due("the last three", x.step(0, 200), 3);
        dueTask("2000", x, 0, 1, 0);
        due("result", x.print(0, -1), 7);
    }

    @Says(promise = 9, text = "steps of the whole run above 2000 (the step that would be one more fails its task"
            + " instead, and is none)")
    static void theStep2001FailsItsTask() {
        VersionForks x = started(code(PUSH, 0, FORK, 1, POP, 0, PUSH, 7, END, 0), ENDLESS);
        x.step(0, 2);
        go(x, 1, 1996);
        due("the last two", x.step(0, 200), 2);
        dueTask("2001", x, 0, 2, 4);
        due("it is no step", x.task(0, 3), 4);
        refused("it did not end", ELEMENT, () -> x.print(0, -1));
        dueTask("the other", x, 1, 0, 0);
        due("the other's next", x.step(1, 1), 0);
        dueTask("the other's next", x, 1, 2, 4);
        due("its steps", x.task(1, 3), 1996);
    }

    @Says(promise = 9, text = "steps of the whole run above 2000 (the step that would be one more fails its task"
            + " instead, and is none)")
    static void theStep2001HasNoEffect() {
        int[][] last = {code(WRITE, 0), code(PRINT, 0), code(FORK, 1), code(JOIN, 0), code(END, 0)};
        for (int[] operation : last) {
            VersionForks x = started(all(code(PUSH, 0, FORK, 1, PUSH, 3), operation, code(PUSH, 0, END, 0)), ENDLESS);
            x.step(0, 3);
            go(x, 1, 1997);
            due("no step", x.step(0, 1), 0);
            dueTask("operation " + operation[0], x, 0, 2, 4);
            due("cell", x.read(0, 0), 0);
            due("prints", x.task(0, 4), 0);
            due("tasks", x.tasks(), 2);
            due("segments", x.count(0), 3);
        }
    }

    @Says(promise = 9, text = "steps of the whole run above 2000 (the step that would be one more fails its task"
            + " instead, and is none)")
    static void stepsThatWaitAreAmongThe2000() {
        VersionForks x = started(FORK_1_AND_JOIN, ENDLESS);
        x.step(0, 2);
        go(x, 1, 1997);
        due("2000 with the JOIN that waits", x.step(0, 1), 1);
        dueTask("2000", x, 0, 0, 0);
        due("one that would wait again", x.step(0, 1), 0);
        dueTask("2001", x, 0, 2, 4);
    }

    @Says(promise = 9, text = "steps of the whole run above 2000 (the step that would be one more fails its task"
            + " instead, and is none)")
    static void anotherRunHasStepsOfItsOwn() {
        VersionForks x = started(ENDLESS);
        due("the first run", x.run(0), 2000);
        x.start();
        due("the second", x.run(1), 2000);
        x.reset();
        x.start();
        due("behind reset", x.step(0, 200), 200);
    }

    // Promise 10: run

    @Says(promise = 10, text = "IllegalStateException: nothing runs.")
    static void runNeedsARun() {
        VersionForks x = program(JUST_END);
        for (int seed : code(0, 1, -1)) {
            refused("seed " + seed, STATE, () -> x.run(seed));
        }
        x.start();
        due("run", x.run(0), 2);
        x.reset();
        refused("behind reset", STATE, () -> x.run(0));
    }

    @Says(promise = 10, text = "All steps in one order, until task 0 is over")
    static void runStopsWhenTask0IsOver() {
        VersionForks x = started(code(PUSH, 0, FORK, 1, END, 0), ENDLESS);
        x.step(0, 2);
        x.step(1, 7);
        x.step(0, 1);
        for (int seed : code(0, 1, -1)) {
            due("it ended, seed " + seed, x.run(seed), 0);
        }
        due("the other stands", x.task(1, 3), 7);
        dueTask("the other", x, 1, 0, 0);
        VersionForks y = started(code(PUSH, 0, JOIN, 0, END, 0));
        due("it fails", y.run(3), 2);
        due("it failed", y.run(3), 0);
    }

    @Says(promise = 10, text = "by 0 always the task with the greatest number that can go on (one whose JOIN would"
            + " not wait)")
    static void byZeroTheGreatestGoes() {
        VersionForks x = started(code(PUSH, 0, FORK, 1, PUSH, 0, FORK, 2, END, 0),
                code(PUSH, 0, FORK, 2, JOIN, 0, END, 0), JUST_END);
        due("all go ahead of task 0", x.run(0), 5 + 4 + 2 + 2);
        dueTask("task 1", x, 1, 1, 0);
        dueTask("task 2 is that of task 1", x, 2, 3, 0);
        due("task 2 was forked by 1", x.task(2, 2), 1);
        due("task 3 was forked by 0", x.task(3, 2), 0);
        due("no step waited", x.task(1, 3), 4);
    }

    @Says(promise = 10, text = "by 0 always the task with the greatest number that can go on (one whose JOIN would"
            + " not wait)")
    static void aJoinOfAFailedOneCanGoOn() {
        for (int seed : code(0, 5, -5)) {
            VersionForks x = started(FORK_1_AND_JOIN, code(PUSH, 1, JOIN, 0, END, 0));
            due("steps by " + seed, x.run(seed), 5);
            dueTask("seed " + seed, x, 0, 2, 1);
        }
    }

    /** Steps of the tasks of the program of byASeedTheNumberIsPicked, by its seed. */
    private static int[] stepsBy(int seed) {
        int[] steps = new int[3];
        int r = seed;
        while (steps[0] < 6) {
            int[] ready = new int[3];
            int count = 0;
            if (steps[0] != 4 || steps[2] == 4) {
                ready[count++] = 0;
            }
            if (steps[0] >= 2) {
                ready[count++] = 1;
            }
            if (steps[0] >= 4 && steps[2] < 4) {
                ready[count++] = 2;
            }
            r = r * 1103515245 + 12345;
            steps[ready[(r >>> 16) % count]]++;
        }
        return steps;
    }

    /** The seed that makes r 0 at once. */
    private static int seedToZero() {
        int inverse = 1;
        for (int i = 0; i < 6; i++) {
            inverse *= 2 - 1103515245 * inverse;
        }
        return -12345 * inverse;
    }

    @Says(promise = 10, text = "each time r becomes r * 1103515245 + 12345 (32 bits), and of those that can go on,"
            + " in order of their numbers, number (r >>> 16) % how many goes one step.")
    static void byASeedTheNumberIsPicked() {
        due("the seed that makes r 0", seedToZero() * 1103515245 + 12345, 0);
        VersionForks x = program(code(PUSH, 0, FORK, 1, PUSH, 0, FORK, 2, JOIN, 0, END, 0), ENDLESS,
                code(PUSH, 1, POP, 0, PUSH, 2, END, 0));
        for (int seed : code(1, 2, 3, -1, -2, 12345, Integer.MIN_VALUE, Integer.MAX_VALUE, seedToZero())) {
            int[] steps = stepsBy(seed);
            x.start();
            due("steps by " + seed, x.run(seed), steps[0] + steps[1] + steps[2]);
            for (int task = 0; task < 3; task++) {
                due("steps of task " + task + " by " + seed, x.task(task, 3), steps[task]);
            }
        }
    }

    @Says(promise = 10, text = "a number r is seed at first")
    static void eachCallBeginsWithItsSeed() {
        VersionForks x = program(code(PUSH, 0, FORK, 1, PUSH, 0, FORK, 2, JOIN, 0, END, 0), ENDLESS,
                code(PUSH, 1, POP, 0, PUSH, 2, END, 0));
        for (int i = 0; i < 3; i++) {
            x.start();
            x.run(77);
            due("steps of task 1, time " + i, x.task(1, 3), stepsBy(77)[1]);
        }
    }

    @Says(promise = 10, text = "Answers how many steps there were.")
    static void runAnswersItsOwnStepsAlone() {
        VersionForks x = started(FORK_1_AND_JOIN, JUST_END);
        x.step(0, 3);
        due("behind three, one of them a JOIN that waits", x.run(0), 4);
        due("steps of task 0", x.task(0, 3), 5);
    }

    @Says(promise = 10, text = "Answers how many steps there were.")
    static void runDoesNotAnswerTheStepsThatAreNone() {
        VersionForks x = started(FORK_1_AND_JOIN, ENDLESS);
        due("by 0", x.run(0), 2000);
        dueTask("by 0", x, 0, 2, 4);
        dueTask("by 0", x, 1, 2, 4);
        due("steps of task 0", x.task(0, 3), 2);
        due("steps of task 1", x.task(1, 3), 1998);
        x.start();
        x.step(0, 200);
        due("by a seed, behind three", x.run(9), 1997);
        dueTask("by a seed", x, 0, 2, 4);
    }
}
