import java.io.IOException;
import java.util.ArrayList;
import java.util.List;

/** The document from its first line: each sentence that no edge test holds. */
public final class DocumentTests extends Sentences {
    public static void main(String[] args) throws IOException, IllegalAccessException {
        holdAll(DocumentTests.class);
    }

    // What it is

    @Says(promise = 13, text = "Runs programs of tasks that each work on a version of memory of their own")
    static void eachTaskHasItsOwnVersion() {
        int[] writes = code(LOAD, 0, WRITE, 4, READ, 4, END, 0);
        VersionForks x = started(code(PUSH, 7, WRITE, 4, PUSH, 8, FORK, 1, POP, 0, PUSH, 9, FORK, 1, END, 0), writes);
        x.step(0, 7);
        for (int task = 0; task < 3; task++) {
            due("task " + task + " at first", x.read(task, 4), 7);
        }
        x.step(1, 2);
        due("task 0 behind a write of task 1", x.read(0, 4), 7);
        due("task 1 behind its own", x.read(1, 4), 8);
        due("task 2 behind a write of task 1", x.read(2, 4), 7);
        x.step(2, 4);
        due("task 1 behind a write of task 2", x.read(1, 4), 8);
        due("what task 2 found there", x.print(2, -1), 9);
    }

    @Says(promise = 15, text = "a fork opens a new segment above the present one")
    static void aForkOpensSegments() {
        VersionForks x = started(code(PUSH, 0, FORK, 1, PUSH, 0, FORK, 1, JOIN, 0, END, 0), JUST_END);
        due("at first", x.count(0), 1);
        x.step(0, 2);
        due("behind a fork", x.count(0), 3);
        x.step(0, 2);
        due("behind another", x.count(0), 5);
    }

    @Says(promise = 10, text = "a join brings what the joined task wrote into the joiner's memory by the kind of each"
            + " cell")
    static void aJoinBringsByTheKindOfEachCell() {
        int[] base = code(PUSH, 6, WRITE, 0, PUSH, 6, WRITE, 1, PUSH, 6, WRITE, 2, PUSH, 6, WRITE, 3);
        int[] ours = code(PUSH, 3, WRITE, 0, PUSH, 3, WRITE, 1, PUSH, 3, WRITE, 2, PUSH, 3, WRITE, 3);
        int[] theirs = code(PUSH, 13, WRITE, 0, PUSH, 13, WRITE, 1, PUSH, 13, WRITE, 2, PUSH, 13, WRITE, 3);
        VersionForks x = program(all(base, code(PUSH, 0, FORK, 1), ours, code(JOIN, 0, END, 0)),
                all(theirs, code(PUSH, 0, END, 0)));
        x.merge();
        fill(x, LOAD, 0, LOAD, 1, LOAD, 2, MUL, 0, ADD, 0, END, 0);
        for (int kind = 0; kind < 4; kind++) {
            x.cell(kind, kind, 0);
        }
        x.start();
        x.run(0);
        due("PLAIN", x.read(0, 0), 13);
        due("ADDING", x.read(0, 1), 3 + 13 - 6);
        due("SET", x.read(0, 2), 0b1001);
        due("OWN", x.read(0, 3), 6 + 3 * 13);
        due("cells brought", x.count(2), 4);
    }

    @Says(promise = 15, text = "segments that nobody else needs are laid together")
    static void segmentsAreLaidTogether() {
        int[] writes = code(PUSH, 5, WRITE, 1, PUSH, 6, WRITE, 2, PUSH, 0, END, 0);
        VersionForks x = ran(code(PUSH, 4, WRITE, 1, PUSH, 0, FORK, 1, PUSH, 7, WRITE, 3, JOIN, 0, END, 0), writes);
        due("segments", x.count(0), 1);
        due("cells in it", x.count(1), 3);
        due("what was brought", x.read(0, 1), 5);
        due("what was written above", x.read(0, 3), 7);
    }

    /** Straight blocks: task 0 forks 1 and 2 with its steps 2 and 4, joins 2 with its step 7 and 1 with its step 9. */
    private static final int[] TWO_FORKS_TWO_JOINS = code(PUSH, 3, FORK, 1, PUSH, 5, FORK, 1, PUSH, 12, WRITE, 2,
            JOIN, 0, PRINT, 0, JOIN, 0, END, 0);
    private static final int[] WRITES_AND_ENDS = code(LOAD, 0, DUP, 0, WRITE, 2, END, 0);

    private static boolean canGoOn(int task, int[] steps) {
        if (task == 0) {
            return steps[0] < 10 && (steps[0] != 6 || steps[2] == 4) && (steps[0] != 8 || steps[1] == 4);
        }
        return steps[0] >= 2 * task && steps[task] < 4;
    }

    private static void gatherOrders(int[] order, int length, int[] steps, List<int[]> all) {
        if (steps[0] == 10) {
            all.add(order.clone());
        }
        for (int task = 0; task < 3; task++) {
            if (canGoOn(task, steps)) {
                order[length] = task;
                steps[task]++;
                gatherOrders(order, length + 1, steps, all);
                steps[task]--;
            }
        }
    }

    /** The result and the prints of task 0, a cell of a kind, how many segments there are and cells were brought. */
    private static String whatComesOut(int kind, int[] order) {
        VersionForks x = program(TWO_FORKS_TWO_JOINS, WRITES_AND_ENDS);
        x.merge();
        fill(x, LOAD, 1, PUSH, 2, MUL, 0, LOAD, 2, ADD, 0, END, 0);
        x.cell(2, kind, 0);
        x.start();
        for (int task : order) {
            due("a step of task " + task, x.step(task, 1), 1);
        }
        StringBuilder text = new StringBuilder();
        for (int k = -1; k < x.task(0, 4); k++) {
            text.append(x.print(0, k)).append(' ');
        }
        return text.append(x.read(0, 2)).append(' ').append(x.count(0)).append(' ').append(x.count(2)).toString();
    }

    @Says(promise = 10, text = "no order of steps shows in what comes out")
    static void noOrderOfStepsShows() {
        List<int[]> orders = new ArrayList<>();
        gatherOrders(new int[18], 0, new int[3], orders);
        due("there are many orders", orders.size() > 1000 ? 1 : 0, 1);
        String[] want = {"3 5 3 1 2", "3 5 20 1 2", "3 5 15 1 2", "3 5 61 1 2"};
        for (int kind = 0; kind < 4; kind++) {
            int others = 0;
            for (int[] order : orders) {
                others += whatComesOut(kind, order).equals(want[kind]) ? 0 : 1;
            }
            due("orders with another outcome by kind " + kind, others, 0);
        }
    }

    @Says(promise = 10, text = "(but for the numbers of tasks, where they are used for other than JOIN, and codes 3"
            + " and 4)")
    static void numbersOfTasksShowTheOrder() {
        int[] forksTwo = code(PUSH, 0, FORK, 1, PUSH, 0, FORK, 1, POP, 0, END, 0);
        int[] tellsItsTask = code(PUSH, 0, FORK, 2, END, 0);
        for (int first = 1; first <= 2; first++) {
            VersionForks x = started(forksTwo, tellsItsTask, JUST_END);
            x.step(0, 4);
            x.step(first, 3);
            x.step(3 - first, 3);
            due("the number that the first one got", x.print(first, -1), 3);
            due("the number that the second one got", x.print(3 - first, -1), 4);
        }
    }

    @Says(promise = 10, text = "(but for the numbers of tasks, where they are used for other than JOIN, and codes 3"
            + " and 4)")
    static void code3ShowsTheOrder() {
        int[] forksTwo = code(PUSH, 0, FORK, 1, PUSH, 0, FORK, 1, POP, 0, END, 0);
        int[] forksOn = code(PUSH, 0, FORK, 2, POP, 0, JUMP, 0);
        for (int first = 1; first <= 2; first++) {
            VersionForks x = started(forksTwo, forksOn, JUST_END);
            x.step(0, 4);
            x.step(first, 4 * 9);
            dueTask("the first one has forked nine", x, first, 0, 0);
            due("so there are twelve", x.tasks(), 12);
            due("steps of the second one", x.step(3 - first, 200), 2);
            dueTask("the second one finds no room", x, 3 - first, 2, 3);
        }
    }

    // Terms

    @Says(promise = 9, text = "A block's instructions work on a stack of numbers")
    static void theLastPutIsTakenFirst() {
        VersionForks x = ran(code(PUSH, 1, PUSH, 2, PUSH, 3, PRINT, 0, PRINT, 0, PRINT, 0, PUSH, 0, END, 0));
        for (int k = 0; k < 3; k++) {
            due("print " + k, x.print(0, k), 3 - k);
        }
    }

    @Says(promise = 9, text = "and 4 LOCALS")
    static void eachLocalStandsForItself() {
        int[] stores = code(PUSH, 10, STORE, 0, PUSH, 11, STORE, 1, PUSH, 12, STORE, 2, PUSH, 13, STORE, 3);
        VersionForks x = ran(all(stores, code(LOAD, 3, PRINT, 0, LOAD, 2, PRINT, 0, LOAD, 1, PRINT, 0, LOAD, 0,
                PRINT, 0, LOAD, 2, END, 0)));
        for (int k = 0; k < 4; k++) {
            due("local " + (3 - k), x.print(0, k), 13 - k);
        }
        due("LOAD leaves it there", x.print(0, -1), 12);
    }

    @Says(promise = 9, text = "5 ADD, 6 SUB, 7 MUL, 8 AND, 9 OR, 10 LESS (take y, then x below it; put x op y, for LESS"
            + " 1 or 0).")
    static void whatTheOperationsReckon() {
        long[] of12And10 = {22, 2, 120, 8, 14, 0};
        long[] of10And12 = {22, -2, 120, 8, 14, 1};
        for (int operation = ADD; operation <= LESS; operation++) {
            due("12 and 10 by " + operation, resultOf(PUSH, 12, PUSH, 10, operation, 0, END, 0),
                    of12And10[operation - ADD]);
            due("10 and 12 by " + operation, resultOf(PUSH, 10, PUSH, 12, operation, 0, END, 0),
                    of10And12[operation - ADD]);
            due("what lies below by " + operation,
                    resultOf(PUSH, 99, PUSH, 10, PUSH, 12, operation, 0, POP, 0, END, 0), 99);
        }
    }

    @Says(promise = 9, text = "11 JUMP a")
    static void jumpGoesAnywhereInItsBlock() {
        due("forward", resultOf(PUSH, 1, JUMP, 3, POP, 0, END, 0), 1);
        due("to the next one", resultOf(PUSH, 2, JUMP, 2, END, 0), 2);
        due("backward", resultOf(JUMP, 3, PUSH, 3, END, 0, JUMP, 1), 3);
        VersionForks x = started(code(PUSH, 0, JUMP, 1));
        due("to itself", x.step(0, 200), 200);
        due("it takes and puts nothing", x.fault(), -1);
    }

    @Says(promise = 10, text = "THEIRS (what it reads) to OURS (what the joiner reads)")
    static void theirsAndOursAreWhatIsRead() {
        // Task 1 writes before it forks, so theirs lies below its last segment; task 0 has not written since the start.
        VersionForks x = program(code(PUSH, 100, WRITE, 0, PUSH, 0, FORK, 1, PUSH, 0, FORK, 2, POP, 0, JOIN, 0, END, 0),
                code(PUSH, 107, WRITE, 0, PUSH, 0, FORK, 2, END, 0), JUST_END);
        x.cell(0, 1, 0);
        x.start();
        x.run(0);
        due("ours and what theirs has more", x.read(0, 0), 107);
        due("one cell was brought", x.count(2), 1);
    }

    @Says(promise = 9, text = "A STEP is one instruction of a task that RUNS")
    static void eachInstructionIsOneStep() {
        int[] first = code(PUSH, 6, STORE, 1, LOAD, 1, WRITE, 2, READ, 2, DUP, 0, ADD, 0, DUP, 0, SUB, 0, DUP, 0,
                MUL, 0, DUP, 0, AND, 0, DUP, 0, OR, 0, DUP, 0, LESS, 0, POP, 0, PUSH, 3, FORK, 1, JOIN, 0, END, 0);
        int[] other = code(PUSH, 1, PRINT, 0, LOAD, 0, ZERO, 5, JUMP, 5, PUSH, 8, END, 0);
        VersionForks x = started(first, other);
        dueSingleSteps(x, 0, 0, 19);
        due("the FORK comes", x.tasks(), 1);
        dueSingleSteps(x, 0, 19, 20);
        due("the FORK was the last of them", x.tasks(), 2);
        dueSingleSteps(x, 1, 0, 7);
        due("the END was the last of them", x.print(1, -1), 8);
        dueSingleSteps(x, 0, 20, 22);
        due("the JOIN and the END", x.print(0, -1), 8);
    }

    private static void dueSingleSteps(VersionForks x, int task, int done, int all) {
        for (int steps = done + 1; steps <= all; steps++) {
            due("a step of task " + task, x.step(task, 1), 1);
            due("steps of task " + task + " so far", x.task(task, 3), steps);
        }
    }

    @Says(promise = 9, text = "A task ENDS with END, or FAILS.")
    static void endedAndFailedTasksGoNoFurther() {
        VersionForks x = started(code(PUSH, 0, FORK, 1, PUSH, 0, FORK, 2, END, 0), JUST_END, code(PUSH, 9, JOIN, 0,
                END, 0));
        x.step(0, 4);
        due("END is a step", x.step(1, 9), 2);
        dueTask("it ended", x, 1, 1, 0);
        due("what fails is a step", x.step(2, 9), 2);
        dueTask("it failed", x, 2, 2, 1);
        due("no steps of one that ended", x.step(1, 9), 0);
        due("no steps of one that failed", x.step(2, 9), 0);
        due("steps of one that ended", x.task(1, 3), 2);
        due("steps of one that failed", x.task(2, 3), 2);
    }

    // Promises

    @Says(promise = 7, text = "The fault of the program: 100 * block + instruction")
    static void theFaultIsToldByBlockAndInstruction() {
        due("instruction 1 of block 2", faultOf(JUST_END, JUST_END, code(PUSH, 0, LOAD, 4, END, 0)), 201);
        due("the same told again", faultOf(JUST_END, JUST_END, code(PUSH, 0, LOAD, 3, END, 0)), -1);
        VersionForks x = started(JUST_END);
        due("in a run", x.fault(), -1);
        x.run(0);
        due("behind a run", x.fault(), -1);
    }

    @Says(promise = 13, text = "What a task reads of a cell now.")
    static void readTellsWhatIsThereNow() {
        VersionForks x = started(code(PUSH, 1, WRITE, 0, PUSH, 2, WRITE, 0, PUSH, 0, END, 0));
        long[] want = {0, 0, 1, 1, 2, 2, 2};
        for (int steps = 0; steps < 7; steps++) {
            due("behind " + steps + " steps", x.read(0, 0), want[steps]);
            due("the same asked again", x.read(0, 0), want[steps]);
            x.step(0, 1);
        }
        due("asking is no step", x.task(0, 3), 6);
        due("asking writes nothing", x.count(1), 1);
    }

    @Says(promise = 15, text = "0: how many segments there are")
    static void segmentsAreCounted() {
        VersionForks x = started(code(PUSH, 0, FORK, 1, JOIN, 0, POP, 0, PUSH, 0, FORK, 1, JOIN, 0, END, 0), JUST_END);
        int[] want = {1, 1, 3, 1, 1, 1, 3, 1, 1};
        for (int steps = 0; steps < want.length; steps++) {
            due("behind " + steps + " steps of task 0", x.count(0), want[steps]);
            if (x.tasks() > 1) {
                x.step(x.tasks() - 1, 9);
            }
            x.step(0, 1);
        }
    }
}
