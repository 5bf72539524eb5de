import java.io.IOException;

/** Promises 11 to 15: each sentence that names an edge of what is told of tasks, cells and segments. */
public final class ToldEdgeTests extends Sentences {
    public static void main(String[] args) throws IOException, IllegalAccessException {
        holdAll(ToldEdgeTests.class);
    }

    // Promise 11: task

    @Says(promise = 11, text = "NoSuchElementException: no such task; IllegalArgumentException: no such what.")
    static void noSuchTaskOrWhat() {
        VersionForks x = program(FORK_1_AND_JOIN, JUST_END);
        refused("nothing runs", ELEMENT, () -> x.task(0, 0));
        x.start();
        for (int task : code(Integer.MIN_VALUE, -1, 1, 12, Integer.MAX_VALUE)) {
            refused("task " + task, ELEMENT, () -> x.task(task, 0));
        }
        for (int what : code(Integer.MIN_VALUE, -1, 5, 6, Integer.MAX_VALUE)) {
            refused("what " + what, ARGUMENT, () -> x.task(0, what));
        }
        x.run(0);
        due("a joined task is told", x.task(1, 0), 3);
        refused("what 5 of a joined task", ARGUMENT, () -> x.task(1, 5));
        refused("task 2", ELEMENT, () -> x.task(2, 0));
    }

    @Says(promise = 11, text = "Of a task what 0: 0 running, 1 ended, 2 failed, 3 joined; 1: its code (0 if it did"
            + " not fail)")
    static void statusAndCode() {
        VersionForks x = started(code(PUSH, 0, FORK, 1, JOIN, 0, DUP, 0, JOIN, 0, END, 0), JUST_END);
        dueTask("at first", x, 0, 0, 0);
        x.step(0, 2);
        dueTask("forked", x, 1, 0, 0);
        x.step(1, 2);
        dueTask("ended", x, 1, 1, 0);
        x.step(0, 1);
        dueTask("joined", x, 1, 3, 0);
        x.step(0, 9);
        dueTask("failed", x, 0, 2, 1);
    }

    @Says(promise = 11, text = "2: the task that forked it (-1 of 0)")
    static void whoForkedIt() {
        VersionForks x = ran(code(PUSH, 0, FORK, 1, JOIN, 0, JOIN, 0, END, 0), code(PUSH, 0, FORK, 2, END, 0),
                JUST_END);
        due("of 0", x.task(0, 2), -1);
        due("of 1", x.task(1, 2), 0);
        due("of 2, joined by 0", x.task(2, 2), 1);
    }

    @Says(promise = 11, text = "3: how many steps it did")
    static void stepsOfATask() {
        VersionForks x = started(FORK_1_AND_JOIN, JUST_END);
        due("none yet", x.task(0, 3), 0);
        x.step(0, 2);
        due("of a task just forked", x.task(1, 3), 0);
        x.step(0, 9);
        due("with the JOIN that waits", x.task(0, 3), 3);
        x.run(0);
        due("of a joined task", x.task(1, 3), 2);
        due("at the end", x.task(0, 3), 5);
    }

    @Says(promise = 11, text = "4: how many prints it has (with those joined).")
    static void printsOfATask() {
        VersionForks x = started(code(PUSH, 0, PRINT, 0, PUSH, 0, FORK, 1, JOIN, 0, END, 0), prints(3));
        due("none yet", x.task(0, 4), 0);
        x.step(0, 4);
        due("of a task just forked", x.task(1, 4), 0);
        x.step(1, 200);
        due("of the other", x.task(1, 4), 3);
        due("not joined", x.task(0, 4), 1);
        x.step(0, 1);
        due("joined", x.task(0, 4), 4);
    }

    // Promise 12: tasks

    @Says(promise = 12, text = "How many tasks there are; 0 if nothing runs.")
    static void tasksAreCounted() {
        VersionForks x = program(FORK_1_AND_JOIN, JUST_END);
        due("nothing runs", x.tasks(), 0);
        x.start();
        due("task 0", x.tasks(), 1);
        x.step(0, 2);
        due("behind a fork", x.tasks(), 2);
        x.run(0);
        due("joined ones stay", x.tasks(), 2);
        x.start();
        due("behind start", x.tasks(), 1);
        x.reset();
        due("behind reset", x.tasks(), 0);
    }

    @Says(promise = 12, text = "3 more than 12 tasks")
    static void aThirteenthTaskFailsTheForker() {
        VersionForks x = started(code(PUSH, 0, FORK, 1, POP, 0, JUMP, 0), JUST_END);
        due("eleven forks", x.step(0, 44), 44);
        due("twelve tasks", x.tasks(), 12);
        dueTask("twelve tasks", x, 0, 0, 0);
        due("segments", x.count(0), 23);
        due("cells", x.count(1), 0);
        due("one more", x.step(0, 200), 2);
        dueTask("one more", x, 0, 2, 3);
        due("it counts as a step", x.task(0, 3), 46);
        due("tasks then", x.tasks(), 12);
        due("segments then", x.count(0), 23);
        due("another one goes on", x.step(11, 200), 2);
        dueTask("another one", x, 11, 1, 0);
    }

    @Says(promise = 12, text = "3 more than 12 tasks")
    static void joinedTasksAreAmongTheTwelve() {
        VersionForks x = ran(code(PUSH, 0, FORK, 1, JOIN, 0, POP, 0, JUMP, 0), JUST_END);
        dueTask("task 0", x, 0, 2, 3);
        due("tasks", x.tasks(), 12);
        dueTask("the last one", x, 11, 3, 0);
        due("segments", x.count(0), 1);
    }

    @Says(promise = 12, text = "3 more than 12 tasks")
    static void theLastTaskMayFail() {
        VersionForks x = started(FORK_1_AND_JOIN, FORK_1_AND_JOIN);
        due("steps", x.run(0), 11 * 3 + 2);
        for (int task = 0; task < 12; task++) {
            dueTask("all of them", x, task, 2, 3);
        }
        due("segments", x.count(0), 23);
    }

    // Promise 13: read

    @Says(promise = 13, text = "NoSuchElementException: no such task, or it was joined; IllegalArgumentException:"
            + " no such cell.")
    static void noSuchTaskOrCell() {
        VersionForks x = program(code(PUSH, 7, WRITE, 0, PUSH, 0, FORK, 1, JOIN, 0, END, 0), JUST_END);
        refused("nothing runs", ELEMENT, () -> x.read(0, 0));
        x.start();
        for (int task : code(Integer.MIN_VALUE, -1, 1, 12, Integer.MAX_VALUE)) {
            refused("task " + task, ELEMENT, () -> x.read(task, 0));
        }
        for (int cell : code(Integer.MIN_VALUE, -1, 12, 13, Integer.MAX_VALUE)) {
            refused("cell " + cell, ARGUMENT, () -> x.read(0, cell));
        }
        x.step(0, 4);
        x.step(1, 2);
        due("of one that ended", x.read(1, 0), 7);
        x.step(0, 1);
        refused("of one that was joined", ELEMENT, () -> x.read(1, 0));
        due("of the joiner", x.read(0, 0), 7);
        due("cell 11", x.read(0, 11), 0);
    }

    @Says(promise = 13, text = "what was written to it last in its segment, or else in the one below, and so on; 0"
            + " if nowhere.")
    static void whatATaskReads() {
        VersionForks x = started(
                code(PUSH, 5, WRITE, 0, PUSH, 6, WRITE, 0, PUSH, 0, FORK, 1, PUSH, 0, WRITE, 0, JOIN, 0, END, 0),
                code(PUSH, 0, FORK, 2, PUSH, 9, WRITE, 0, JOIN, 0, END, 0), code(READ, 0, END, 0));
        due("nowhere", x.read(0, 0), 0);
        x.step(0, 2);
        due("written", x.read(0, 0), 5);
        x.step(0, 2);
        due("written last", x.read(0, 0), 6);
        x.step(0, 4);
        due("a 0 that was written hides what is below", x.read(0, 0), 0);
        x.step(1, 2);
        due("two below", x.read(2, 0), 6);
        x.step(1, 2);
        due("its own", x.read(1, 0), 9);
        due("two below still", x.read(2, 0), 6);
        due("another cell is nowhere", x.read(2, 1), 0);
        x.run(0);
        due("READ gives the same", x.print(0, -1), 6);
    }

    @Says(promise = 13, text = "is a new one above the one that its parent had till then (in which it was FORKED);"
            + " the parent goes on in another new one above that same one.")
    static void neitherSeesTheOther() {
        VersionForks x = started(code(PUSH, 1, WRITE, 0, PUSH, 0, FORK, 1, PUSH, 2, WRITE, 0, JUMP, 6),
                code(PUSH, 3, WRITE, 0, PUSH, 4, WRITE, 1, JUMP, 4));
        x.step(0, 4);
        due("segments at once", x.count(0), 3);
        due("cells at once", x.count(1), 1);
        x.step(0, 2);
        due("the new task has what was", x.read(1, 0), 1);
        x.step(1, 4);
        due("the parent", x.read(0, 0), 2);
        due("the new task", x.read(1, 0), 3);
        due("the parent does not see it", x.read(0, 1), 0);
        due("a cell is written in three", x.count(1), 4);
    }

    // Promise 14: print

    @Says(promise = 14, text = "NoSuchElementException: no such task, it was joined, has not so many prints, or"
            + " (-1) did not end.")
    static void noSuchPrint() {
        VersionForks x = program(FORK_1_AND_JOIN, prints(2));
        refused("nothing runs", ELEMENT, () -> x.print(0, 0));
        refused("nothing runs, -1", ELEMENT, () -> x.print(0, -1));
        x.start();
        for (int task : code(Integer.MIN_VALUE, -1, 1, 12, Integer.MAX_VALUE)) {
            refused("task " + task, ELEMENT, () -> x.print(task, 0));
            refused("the result of task " + task, ELEMENT, () -> x.print(task, -1));
        }
        refused("no print yet", ELEMENT, () -> x.print(0, 0));
        x.step(0, 2);
        x.step(1, 200);
        due("the first of one that ended", x.print(1, 0), 2);
        due("the last", x.print(1, 1), 1);
        due("its result", x.print(1, -1), 5);
        for (int k : code(Integer.MIN_VALUE, -2, 2, 29, 30, Integer.MAX_VALUE)) {
            refused("k " + k, ELEMENT, () -> x.print(1, k));
        }
        x.step(0, 1);
        refused("a print of one that was joined", ELEMENT, () -> x.print(1, 0));
        refused("the result of one that was joined", ELEMENT, () -> x.print(1, -1));
        due("it is the joiner's now", x.print(0, 1), 1);
        refused("the joiner did not end", ELEMENT, () -> x.print(0, -1));
    }

    @Says(promise = 14, text = "The k-th print of a task, or its result (k = -1).")
    static void printsOfOneThatRunsOrFailed() {
        VersionForks x = started(code(PUSH, 6, PRINT, 0, PUSH, 9, JOIN, 0, END, 0));
        x.step(0, 2);
        due("of one that runs", x.print(0, 0), 6);
        x.run(0);
        due("of one that failed", x.print(0, 0), 6);
        refused("it did not end", ELEMENT, () -> x.print(0, -1));
        due("a result of 0 is one", ran(JUST_END).print(0, -1), 0);
        due("all bits", ran(all(number(Long.MIN_VALUE), code(DUP, 0, PRINT, 0, END, 0))).print(0, 0), Long.MIN_VALUE);
    }

    @Says(promise = 14, text = "A joined task's prints come behind those of the joiner so far, in their order.")
    static void joinedPrintsComeBehind() {
        VersionForks x = program(
                code(PUSH, 10, PRINT, 0, PUSH, 1, FORK, 1, PUSH, 2, FORK, 1, JOIN, 0, PRINT, 0, JOIN, 0, PRINT, 0,
                        PUSH, 0, END, 0),
                code(LOAD, 0, PRINT, 0, LOAD, 0, PUSH, 50, ADD, 0, PRINT, 0, LOAD, 0, END, 0));
        long[] due = {10, 2, 52, 2, 1, 51, 1};
        for (int seed = -2; seed < 4; seed++) {
            x.start();
            x.run(seed);
            due("prints", x.task(0, 4), due.length);
            for (int k = 0; k < due.length; k++) {
                due("print " + k + " by " + seed, x.print(0, k), due[k]);
            }
        }
    }

    @Says(promise = 14, text = "4 more than 30 prints of a task (with those joined)")
    static void aThirtyFirstPrintFails() {
        VersionForks x = ran(prints(30));
        dueTask("30", x, 0, 1, 0);
        due("the first", x.print(0, 0), 30);
        due("the last", x.print(0, 29), 1);
        refused("print 30", ELEMENT, () -> x.print(0, 30));
        VersionForks y = ran(prints(31));
        dueTask("31", y, 0, 2, 4);
        due("30 are there", y.task(0, 4), 30);
        due("the last of them", y.print(0, 29), 2);
        refused("print 30", ELEMENT, () -> y.print(0, 30));
        due("it counts as a step", y.task(0, 3), 1 + 30 * 9 + 5);
    }

    @Says(promise = 14, text = "4 more than 30 prints of a task (with those joined)")
    static void joinedPrintsAreAmongThe30() {
        int[] onePrint = code(PUSH, 0, PRINT, 0, PUSH, 0, FORK, 1, JOIN, 0, END, 0);
        VersionForks fits = ran(onePrint, prints(29));
        dueTask("1 and 29", fits, 0, 1, 0);
        due("1 and 29", fits.task(0, 4), 30);
        VersionForks more = ran(onePrint, prints(30));
        dueTask("1 and 30", more, 0, 2, 4);
        due("1 and 30", more.task(0, 4), 1);
        VersionForks none = ran(FORK_1_AND_JOIN, prints(30));
        dueTask("0 and 30", none, 0, 1, 0);
        VersionForks behind = ran(code(PUSH, 0, FORK, 1, JOIN, 0, PRINT, 0, PUSH, 0, END, 0), prints(30));
        dueTask("30 and 1 behind", behind, 0, 2, 4);
        VersionForks empty = ran(code(PUSH, 0, FORK, 1, JOIN, 0, PUSH, 0, FORK, 2, JOIN, 0, END, 0), prints(30),
                JUST_END);
        dueTask("30 and 0", empty, 0, 1, 0);
        VersionForks two = ran(code(PUSH, 0, FORK, 1, JOIN, 0, PUSH, 0, FORK, 1, JOIN, 0, END, 0), prints(16));
        dueTask("16 and 16", two, 0, 2, 4);
        due("the first 16", two.task(0, 4), 16);
    }

    // Promise 15: count

    @Says(promise = 15, text = "(All 0 when nothing runs.)")
    static void countsAre0WhenNothingRuns() {
        VersionForks x = program(code(PUSH, 5, WRITE, 0, PUSH, 0, FORK, 1, JOIN, 0, END, 0),
                code(PUSH, 6, WRITE, 0, PUSH, 0, END, 0));
        for (int what = 0; what < 3; what++) {
            due("before, count " + what, x.count(what), 0);
        }
        x.start();
        x.run(0);
        for (int what = 0; what < 3; what++) {
            due("at the end, count " + what, x.count(what), 1);
        }
        x.reset();
        for (int what = 0; what < 3; what++) {
            due("behind reset, count " + what, x.count(what), 0);
        }
    }

    @Says(promise = 15, text = "-1 for another what.")
    static void anotherWhatIsMinus1() {
        VersionForks x = started(JUST_END);
        for (int what : code(Integer.MIN_VALUE, -1, 3, 4, Integer.MAX_VALUE)) {
            due("what " + what, x.count(what), -1);
        }
    }

    @Says(promise = 15, text = "1: how many cells are written in them, all together")
    static void cellsAreCountedOncePerSegment() {
        VersionForks x = started(code(PUSH, 5, WRITE, 0, PUSH, 0, WRITE, 0, PUSH, 0, WRITE, 11, PUSH, 0, FORK, 1,
                PUSH, 6, WRITE, 0, JUMP, 10), JUST_END);
        due("none", x.count(1), 0);
        x.step(0, 2);
        due("one", x.count(1), 1);
        x.step(0, 2);
        due("written again", x.count(1), 1);
        x.step(0, 2);
        due("a 0 that was written", x.count(1), 2);
        x.step(0, 4);
        due("in another segment", x.count(1), 3);
    }

    @Says(promise = 15, text = "2: how many cells joins have brought in this run.")
    static void broughtCellsAreCountedEachTime() {
        VersionForks x = started(code(PUSH, 0, FORK, 1, JOIN, 0, POP, 0, PUSH, 0, FORK, 1, JOIN, 0, END, 0),
                code(PUSH, 3, WRITE, 0, PUSH, 4, WRITE, 1, PUSH, 0, END, 0));
        x.run(0);
        due("twice two", x.count(2), 4);
        x.start();
        due("in this run", x.count(2), 0);
    }

    // Promise 15: segments

    @Says(promise = 15, text = "one that is not that of a task (of those not joined), nor that in which one of"
            + " these was forked")
    static void whatIsNeededStays() {
        VersionForks x = started(code(PUSH, 0, FORK, 1, PUSH, 0, FORK, 2, END, 0), JUST_END,
                code(PUSH, 9, JOIN, 0, END, 0));
        due("at first", x.count(0), 1);
        x.step(0, 2);
        due("one fork", x.count(0), 3);
        x.step(1, 9);
        due("a task that ended", x.count(0), 3);
        x.step(0, 2);
        due("two forks", x.count(0), 5);
        x.step(2, 9);
        due("a task that failed", x.count(0), 5);
        x.step(0, 9);
        due("all are over", x.count(0), 5);
    }

    @Says(promise = 15, text = "goes if none is above it")
    static void theSegmentOfAJoinedTaskGoes() {
        VersionForks x = started(code(PUSH, 1, WRITE, 0, PUSH, 0, FORK, 1, JOIN, 0, END, 0),
                code(PUSH, 2, WRITE, 0, PUSH, 3, WRITE, 1, PUSH, 0, END, 0));
        x.step(0, 4);
        x.step(1, 9);
        due("segments before", x.count(0), 3);
        due("cells before", x.count(1), 3);
        x.step(0, 1);
        due("segments behind the join", x.count(0), 1);
        due("cells behind the join", x.count(1), 2);
        due("cell 0", x.read(0, 0), 2);
        due("cell 1", x.read(0, 1), 3);
    }

    /** Task 0 with a cell written ahead of each of three forks; it joins the tasks in the order of the numbers. */
    private static VersionForks tower(int first, int second, int third) {
        VersionForks x = program(
                code(PUSH, 10, WRITE, 0, PUSH, 11, WRITE, 1, PUSH, 0, FORK, 1, PUSH, 20, WRITE, 0, PUSH, 0, FORK, 1,
                        PUSH, 30, WRITE, 2, PUSH, 0, FORK, 1, PUSH, first, JOIN, 0, PUSH, second, JOIN, 0,
                        PUSH, third, JOIN, 0, POP, 0, END, 0),
                code(READ, 0, PUSH, 1, ADD, 0, WRITE, 0, PUSH, 0, END, 0));
        x.cell(0, 1, 0);
        x.start();
        x.step(0, 14);
        due("segments of the tower", x.count(0), 7);
        due("cells of the tower", x.count(1), 4);
        for (int task = 1; task <= 3; task++) {
            x.step(task, 9);
        }
        due("cells with those of the tasks", x.count(1), 7);
        return x;
    }

    @Says(promise = 15, text = "is laid into the one above it if just one is (what is written in that stays): then"
            + " that lies above what was below it.")
    static void whatIsWrittenAboveStays() {
        VersionForks x = tower(1, 2, 3);
        x.step(0, 2);
        due("segments behind the join of 1", x.count(0), 5);
        due("task 2 reads what was above", x.read(2, 1), 11);
        due("the joiner adds", x.read(0, 0), 21);
        due("cells: 0 and 1, then 2, then 0 of each task", x.count(1), 6);
        x.step(0, 2);
        due("segments behind the join of 2", x.count(0), 3);
        due("the joiner adds", x.read(0, 0), 22);
        due("task 3 reads through all", x.read(3, 1), 11);
        due("task 3 reads its own", x.read(3, 0), 21);
        x.step(0, 2);
        due("segments at the end", x.count(0), 1);
        due("cells at the end", x.count(1), 3);
        due("cell 0", x.read(0, 0), 23);
        due("cell 1", x.read(0, 1), 11);
        due("cell 2", x.read(0, 2), 30);
    }

    @Says(promise = 15, text = "is laid into the one above it if just one is (what is written in that stays): then"
            + " that lies above what was below it.")
    static void whatLiesBelowTheOneLaidAwayIsReadStill() {
        VersionForks x = tower(2, 3, 1);
        x.step(0, 2);
        due("segments behind the join of 2", x.count(0), 5);
        due("task 3 reads what lies below", x.read(3, 1), 11);
        due("task 3 reads its own", x.read(3, 0), 21);
        due("task 1 reads its own", x.read(1, 0), 11);
        x.step(0, 2);
        due("segments behind the join of 3", x.count(0), 3);
        due("the joiner adds", x.read(0, 0), 22);
        x.step(0, 2);
        due("segments at the end", x.count(0), 1);
        due("cell 0, with the base of task 1", x.read(0, 0), 23);
        due("cell 1", x.read(0, 1), 11);
        due("cell 2", x.read(0, 2), 30);
    }

    @Says(promise = 15, text = "is laid into the one above it if just one is")
    static void oneWithTwoAboveStays() {
        VersionForks x = started(code(PUSH, 1, WRITE, 0, PUSH, 0, FORK, 1, JOIN, 0, JOIN, 0, END, 0),
                code(PUSH, 2, WRITE, 1, PUSH, 0, FORK, 2, END, 0), code(PUSH, 3, WRITE, 2, PUSH, 0, END, 0));
        x.step(0, 4);
        x.step(1, 9);
        x.step(2, 9);
        due("segments", x.count(0), 5);
        x.step(0, 1);
        // The first one is nobody's now, but that of task 0 and that in which 2 was forked lie above it.
        due("segments behind the join of 1", x.count(0), 4);
        due("cells: 0, 1 twice, 2", x.count(1), 4);
        due("task 2 reads the first one", x.read(2, 0), 1);
        due("and that of its fork", x.read(2, 1), 2);
    }

    @Says(promise = 15, text = "behind each fork and each join (that did not fail), as long as this can be done")
    static void oneLeavesRoomForAnother() {
        VersionForks x = started(code(PUSH, 1, WRITE, 0, PUSH, 0, FORK, 1, JOIN, 0, JOIN, 0, JOIN, 0, END, 0),
                code(PUSH, 2, WRITE, 1, PUSH, 0, FORK, 2, END, 0), code(PUSH, 3, WRITE, 2, PUSH, 0, FORK, 3, END, 0),
                code(PUSH, 4, WRITE, 3, PUSH, 0, END, 0));
        x.step(0, 4);
        for (int task = 1; task <= 3; task++) {
            x.step(task, 9);
        }
        due("segments", x.count(0), 7);
        x.step(0, 1);
        due("behind the join of 1", x.count(0), 6);
        x.step(0, 1);
        // That in which 2 was forked goes into that in which 3 was forked.
        due("behind the join of 2", x.count(0), 4);
        due("task 3 reads the first one", x.read(3, 0), 1);
        due("task 3 reads the one laid away", x.read(3, 1), 2);
        due("task 3 reads that of its fork", x.read(3, 2), 3);
        x.step(0, 1);
        due("behind the join of 3", x.count(0), 1);
        due("cells", x.count(1), 4);
    }

    @Says(promise = 15, text = "behind each fork and each join (that did not fail), as long as this can be done")
    static void nothingIsLaidTogetherByAnEnd() {
        VersionForks x = started(FORK_1_AND_JOIN, JUST_END);
        x.step(0, 2);
        x.step(1, 9);
        due("behind END", x.count(0), 3);
        x.step(0, 1);
        due("behind the join", x.count(0), 1);
    }
}
