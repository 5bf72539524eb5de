import java.io.IOException;

/** Promise 10, as it leans on joins, codes and merges: each sentence that names an edge of them. */
public final class JoinEdgeTests extends Sentences {
    public static void main(String[] args) throws IOException, IllegalAccessException {
        holdAll(JoinEdgeTests.class);
    }

    @Says(promise = 10, text = "TASKS are numbered by the order in which they are forked, the first one is 0 (block"
            + " 0, local 0 is 0).")
    static void tasksAreNumberedByTheirForks() {
        VersionForks x = started(code(PUSH, 0, FORK, 1, PUSH, 0, FORK, 2, END, 0), code(PUSH, 0, FORK, 2, END, 0),
                JUST_END);
        x.step(0, 4);
        x.step(1, 3);
        due("the number that was put", x.print(1, -1), 3);
        due("task 2 was forked by 0", x.task(2, 2), 0);
        due("task 3 was forked by 1", x.task(3, 2), 1);
    }

    @Says(promise = 10, text = "1 a JOIN of a number that is no task that was forked by this task, or by one that"
            + " it joined (directly or in further steps)")
    static void numbersThatAreNoTaskOfItsOwn() {
        long[] numbers = {0, -1, 2, 12, 1 + (1L << 32), Long.MIN_VALUE, Long.MIN_VALUE + 1, Long.MAX_VALUE};
        for (long number : numbers) {
            VersionForks x = ran(all(code(PUSH, 0, FORK, 1, POP, 0), number(number), code(JOIN, 0, END, 0)),
                    JUST_END);
            dueTask("JOIN of " + number, x, 0, 2, 1);
            dueTask("JOIN of " + number, x, 1, 1, 0);
        }
        dueTask("alone", ran(code(PUSH, 0, JOIN, 0, END, 0)), 0, 2, 1);
    }

    @Says(promise = 10, text = "1 a JOIN of a number that is no task that was forked by this task, or by one that"
            + " it joined (directly or in further steps)")
    static void tasksThatAreNotItsOwn() {
        int[] joinsItsLocal = code(LOAD, 0, JOIN, 0, END, 0);
        VersionForks parent = ran(code(PUSH, 0, FORK, 1, JOIN, 0, END, 0), joinsItsLocal);
        dueTask("its parent", parent, 1, 2, 1);
        VersionForks itself = ran(code(PUSH, 1, FORK, 1, JOIN, 0, END, 0), joinsItsLocal);
        dueTask("itself", itself, 1, 2, 1);
        VersionForks sibling = ran(code(PUSH, 0, FORK, 2, FORK, 1, JOIN, 0, END, 0), joinsItsLocal, JUST_END);
        dueTask("one forked beside it", sibling, 2, 2, 1);
        VersionForks running = started(code(PUSH, 0, FORK, 2, FORK, 1, JOIN, 0, END, 0), joinsItsLocal, ENDLESS);
        running.step(0, 3);
        running.step(2, 200);
        dueTask("one forked beside it that runs", running, 2, 2, 1);
    }

    @Says(promise = 10, text = "1 a JOIN of a number that is no task that was forked by this task, or by one that"
            + " it joined (directly or in further steps)")
    static void aTaskOfOneThatItDidNotJoinYet() {
        VersionForks x = started(code(PUSH, 0, FORK, 1, POP, 0, PUSH, 2, JOIN, 0, END, 0),
                code(PUSH, 0, FORK, 2, END, 0), JUST_END);
        x.step(0, 4);
        x.step(1, 9);
        x.step(2, 9);
        due("the JOIN", x.step(0, 9), 1);
        dueTask("both ended", x, 0, 2, 1);
    }

    @Says(promise = 10, text = "1 a JOIN of a number that is no task that was forked by this task, or by one that"
            + " it joined (directly or in further steps)")
    static void aTaskOfTheRunBefore() {
        VersionForks x = started(code(PUSH, 0, FORK, 1, PUSH, 0, FORK, 1, JOIN, 0, END, 0),
                code(PUSH, 0, FORK, 2, POP, 0, PUSH, 3, JOIN, 0, END, 0), JUST_END);
        x.step(0, 4);
        x.step(1, 2);
        x.step(3, 2);
        due("3 was forked by 1", x.task(3, 2), 1);
        due("and is joined by it", x.step(1, 9), 4);
        x.start();
        x.step(0, 2);
        due("3 is not there", x.step(1, 9), 5);
        dueTask("3 is not there", x, 1, 2, 1);
    }

    @Says(promise = 10, text = "1 a JOIN of a number that is no task that was forked by this task, or by one that"
            + " it joined (directly or in further steps)")
    static void aNumberBeyondTwelveTasks() {
        VersionForks x = started(code(PUSH, 0, FORK, 1, PUSH, 11, SUB, 0, ZERO, 6, JUMP, 0, PUSH, 12, JOIN, 0, END, 0),
                JUST_END);
        x.run(0);
        due("tasks", x.tasks(), 12);
        dueTask("JOIN of 12", x, 0, 2, 1);
    }

    @Says(promise = 10, text = "(directly or in further steps)")
    static void tasksThatItGotByJoins() {
        int[] ends = code(PUSH, 44, END, 0);
        int[] joinsTwo = code(PUSH, 0, FORK, 1, JOIN, 0, JOIN, 0, END, 0);
        int[] forks2 = code(PUSH, 0, FORK, 2, END, 0);
        int[] forks3 = code(PUSH, 0, FORK, 3, END, 0);
        VersionForks directly = ran(joinsTwo, forks2, ends);
        due("forked by one that it joined", directly.print(0, -1), 44);
        VersionForks one = ran(joinsTwo, code(PUSH, 0, FORK, 2, JOIN, 0, END, 0), forks3, ends);
        due("forked by one that was joined by one that it joined", one.print(0, -1), 44);
        VersionForks three = ran(code(PUSH, 0, FORK, 1, JOIN, 0, JOIN, 0, JOIN, 0, END, 0), forks2, forks3, ends);
        due("one behind the other", three.print(0, -1), 44);
        due("all are joined", three.count(0), 1);
    }

    @Says(promise = 10, text = "2 of one of these that was joined already")
    static void aTaskIsNotJoinedTwice() {
        VersionForks x = ran(code(PUSH, 0, FORK, 1, DUP, 0, JOIN, 0, POP, 0, JOIN, 0, END, 0), JUST_END);
        dueTask("by itself", x, 0, 2, 2);
        dueTask("the joined one stays joined", x, 1, 3, 0);
        VersionForks y = ran(code(PUSH, 0, FORK, 1, JOIN, 0, JOIN, 0, END, 0),
                code(PUSH, 0, FORK, 2, DUP, 0, JOIN, 0, POP, 0, END, 0), JUST_END);
        dueTask("by one that it joined", y, 0, 2, 2);
    }

    @Says(promise = 10, text = "Each task is joined once at most.")
    static void whatWasBroughtIsNotBroughtAgain() {
        VersionForks x = program(code(PUSH, 0, FORK, 1, DUP, 0, JOIN, 0, POP, 0, JOIN, 0, END, 0),
                code(READ, 0, PUSH, 5, ADD, 0, WRITE, 0, PUSH, 1, PRINT, 0, PUSH, 0, END, 0));
        x.cell(0, 1, 0);
        x.start();
        x.run(0);
        due("cell", x.read(0, 0), 5);
        due("brought", x.count(2), 1);
        due("prints", x.task(0, 4), 1);
    }

    @Says(promise = 10, text = "Of a JOIN 1 comes ahead of 2, then it waits, then the code of a failed one, then 4.")
    static void code1ComesAheadOf2() {
        VersionForks x = started(code(PUSH, 0, FORK, 1, POP, 0, PUSH, 2, JOIN, 0, END, 0),
                code(PUSH, 0, FORK, 2, JOIN, 0, END, 0), JUST_END);
        x.step(0, 4);
        x.step(1, 2);
        x.step(2, 2);
        x.step(1, 1);
        due("2 was joined by 1", x.task(2, 0), 3);
        x.step(0, 1);
        dueTask("2 is not of 0", x, 0, 2, 1);
    }

    @Says(promise = 10, text = "Of a JOIN 1 comes ahead of 2, then it waits, then the code of a failed one, then 4.")
    static void waitingComesAheadOfTheCodeAndOf4() {
        int[] joiner = code(PUSH, 30, STORE, 1, LOAD, 1, ZERO, 10, LOAD, 1, PRINT, 0, LOAD, 1, PUSH, -1, ADD, 0,
                JUMP, 1, PUSH, 0, FORK, 1, JOIN, 0, END, 0);
        VersionForks x = started(joiner, code(PUSH, 1, PRINT, 0, PUSH, 0, END, 0));
        go(x, 0, 400);
        due("30 prints", x.task(0, 4), 30);
        x.step(1, 3);
        due("it waits with 31 in sight", x.step(0, 9), 1);
        dueTask("it waits", x, 0, 0, 0);
        x.step(1, 1);
        due("then 4", x.step(0, 9), 1);
        dueTask("31 prints", x, 0, 2, 4);
        VersionForks y = started(joiner, code(PUSH, 1, PRINT, 0, PUSH, 9, JOIN, 0, END, 0));
        y.run(0);
        dueTask("the code of a failed one ahead of 4", y, 0, 2, 1);
    }

    @Says(promise = 10, text = "A task that has FAILED (with a code) lets its joiner fail with this code (it is not"
            + " joined by that).")
    static void aFailureGoesUpWithItsCode() {
        int[] joins = code(PUSH, 0, FORK, 2, JOIN, 0, END, 0);
        int[][] failing = {
            code(PUSH, 9, JOIN, 0, END, 0),
            code(PUSH, 0, FORK, 3, DUP, 0, JOIN, 0, POP, 0, JOIN, 0, END, 0),
            code(PUSH, 0, FORK, 3, POP, 0, JUMP, 0),
            prints(31),
        };
        for (int i = 0; i < failing.length; i++) {
            VersionForks x = ran(FORK_1_AND_JOIN, joins, failing[i], JUST_END);
            for (int task = 0; task <= 2; task++) {
                dueTask("code " + (i + 1), x, task, 2, i + 1);
            }
            due("brought", x.count(2), 0);
        }
    }

    @Says(promise = 10, text = "A task that has FAILED (with a code) lets its joiner fail with this code (it is not"
            + " joined by that).")
    static void aFailedTaskOfOneThatEnded() {
        VersionForks x = started(code(PUSH, 0, FORK, 1, JOIN, 0, JOIN, 0, END, 0), code(PUSH, 0, FORK, 2, END, 0),
                code(PUSH, 7, WRITE, 0, PUSH, 2, JOIN, 0, END, 0));
        x.run(0);
        dueTask("the one that ended", x, 1, 3, 0);
        dueTask("its task", x, 2, 2, 1);
        dueTask("the joiner of both", x, 0, 2, 1);
        due("its version is still there", x.read(2, 0), 7);
        due("and was not brought", x.read(0, 0), 0);
    }

    @Says(promise = 10, text = "What fails has no other effect (it counts as a step)")
    static void aJoinThatFailsHasNoOtherEffect() {
        VersionForks x = started(code(PUSH, 3, WRITE, 0, PUSH, 0, FORK, 1, JOIN, 0, END, 0),
                code(PUSH, 8, WRITE, 1, PUSH, 8, PRINT, 0, PUSH, 1, JOIN, 0, END, 0));
        x.run(0);
        dueTask("the joiner", x, 0, 2, 1);
        due("nothing is brought", x.read(0, 1), 0);
        due("nothing is brought, told", x.count(2), 0);
        due("prints", x.task(0, 4), 0);
        due("segments", x.count(0), 3);
        due("cells", x.count(1), 2);
        due("it is a step", x.task(0, 3), 5);
        due("and one of the other", x.task(1, 3), 6);
        due("the version of one that failed", x.read(1, 1), 8);
        due("the print of one that failed", x.print(1, 0), 8);
    }

    @Says(promise = 10, text = "What fails has no other effect (it counts as a step)")
    static void aJoinWithTooManyPrintsHasNoOtherEffect() {
        VersionForks x = started(code(PUSH, 9, PRINT, 0, PUSH, 0, FORK, 1, JOIN, 0, END, 0),
                code(PUSH, 4, WRITE, 2, PUSH, 30, STORE, 1, LOAD, 1, ZERO, 12, LOAD, 1, PRINT, 0, LOAD, 1, PUSH, -1,
                        ADD, 0, JUMP, 3, PUSH, 5, END, 0));
        x.run(0);
        dueTask("the joiner", x, 0, 2, 4);
        dueTask("the other is not joined", x, 1, 1, 0);
        due("cell", x.read(0, 2), 0);
        due("brought", x.count(2), 0);
        due("segments", x.count(0), 3);
        due("prints of the joiner", x.task(0, 4), 1);
        due("prints of the other", x.task(1, 4), 30);
        due("the result of the other", x.print(1, -1), 5);
        due("it is a step", x.task(0, 3), 5);
    }

    @Says(promise = 10, text = "a merge does not fail")
    static void aMergeIsNoStepAndDoesNotFail() {
        int[] joiner = all(number(Long.MAX_VALUE), code(WRITE, 0, PUSH, 0, FORK, 1, JOIN, 0, END, 0));
        int[] other = code(PUSH, 2, WRITE, 0, PUSH, 0, END, 0);
        int plain = started(joiner, other).run(0);
        VersionForks x = program(joiner, other);
        x.merge();
        fill(x, LOAD, 1, LOAD, 2, MUL, 0, DUP, 0, MUL, 0, LOAD, 0, MUL, 0, LOAD, 0, ADD, 0, END, 0);
        x.cell(0, 3, 0);
        x.start();
        due("steps are those of instructions", x.run(0), plain);
        dueTask("beyond 64 bits", x, 0, 1, 0);
        due("what it gives", x.read(0, 0), 4 * Long.MAX_VALUE + Long.MAX_VALUE);
    }

    @Says(promise = 10, text = "it brings, for each cell that was written in the joined task's segments above that"
            + " in which it was forked (joins counted as writes")
    static void onlyWhatWasWrittenIsBrought() {
        VersionForks x = ran(
                code(PUSH, 1, WRITE, 0, PUSH, 1, WRITE, 1, PUSH, 0, FORK, 1, PUSH, 2, WRITE, 0, PUSH, 2, WRITE, 1,
                        JOIN, 0, END, 0),
                code(READ, 0, WRITE, 0, READ, 1, END, 0));
        due("written with what it was", x.read(0, 0), 1);
        due("read alone", x.read(0, 1), 2);
        due("brought", x.count(2), 1);
        VersionForks none = ran(FORK_1_AND_JOIN, JUST_END);
        due("a task that wrote nothing", none.count(2), 0);
        due("cells", none.count(1), 0);
    }

    @Says(promise = 10, text = "it brings, for each cell that was written in the joined task's segments above that"
            + " in which it was forked (joins counted as writes")
    static void allCellsAreBrought() {
        int[] first = {};
        int[] second = {};
        for (int cell = 0; cell < 6; cell++) {
            first = all(first, code(PUSH, cell + 1, WRITE, cell));
            second = all(second, code(PUSH, cell + 7, WRITE, cell + 6));
        }
        int[] more = code(PUSH, 0, FORK, 2, JOIN, 0, END, 0);
        VersionForks x = ran(FORK_1_AND_JOIN, all(first, more), all(second, code(PUSH, 0, END, 0)));
        for (int cell = 0; cell < 12; cell++) {
            due("cell " + cell, x.read(0, cell), cell + 1);
        }
        due("6 and 12", x.count(2), 18);
        due("cells", x.count(1), 12);
    }

    @Says(promise = 10, text = "(joins counted as writes; BASE: what is read of the cell in that one)")
    static void theBaseIsWhatWasAtTheFork() {
        VersionForks x = program(
                code(PUSH, 100, WRITE, 0, PUSH, 0, FORK, 1, PUSH, 200, WRITE, 0, JOIN, 0, JOIN, 0, END, 0),
                code(PUSH, 105, WRITE, 0, PUSH, 0, FORK, 2, PUSH, 106, WRITE, 0, END, 0),
                code(PUSH, 112, WRITE, 0, PUSH, 0, END, 0));
        x.cell(0, 1, 0);
        for (int seed = 0; seed < 5; seed++) {
            x.start();
            x.run(seed);
            due("200, 6 from 1, 7 from 2, by " + seed, x.read(0, 0), 213);
            due("brought", x.count(2), 2);
        }
    }

    @Says(promise = 10, text = "as a write of the joiner")
    static void whatIsBroughtIsAWriteOfTheJoiner() {
        VersionForks x = program(FORK_1_AND_JOIN, code(PUSH, 0, FORK, 2, JOIN, 0, END, 0),
                code(PUSH, 7, WRITE, 5, PUSH, 0, END, 0));
        x.start();
        x.run(0);
        due("through two joins", x.read(0, 5), 7);
        due("brought twice", x.count(2), 2);
        due("one cell", x.count(1), 1);
    }

    private static long joined(int kind, long base, long ours, long theirs, int... merge) {
        VersionForks x = program(
                all(number(base), code(WRITE, 0, PUSH, 0, FORK, 1), number(ours), code(WRITE, 0, JOIN, 0, END, 0)),
                all(number(theirs), code(WRITE, 0, PUSH, 0, END, 0)));
        if (merge.length > 0) {
            x.merge();
            fill(x, merge);
        }
        x.cell(0, kind, 0);
        x.start();
        x.run(0);
        return x.read(0, 0);
    }

    @Says(promise = 10, text = "PLAIN: theirs; ADDING: ours + theirs - base")
    static void plainAndAddingAtTheirEdges() {
        due("plain", joined(0, 1, 2, 3), 3);
        due("plain, as it was", joined(0, 1, 2, 1), 1);
        due("plain, 0", joined(0, 1, 2, 0), 0);
        due("adding", joined(1, 1, 2, 3), 4);
        due("adding nothing", joined(1, 1, 2, 1), 2);
        due("adding beyond 64 bits", joined(1, 0, Long.MAX_VALUE, 1), Long.MIN_VALUE);
        due("taking beyond 64 bits", joined(1, Long.MIN_VALUE, 0, 0), Long.MIN_VALUE);
        due("the way beyond and back", joined(1, Long.MAX_VALUE, Long.MAX_VALUE, Long.MAX_VALUE), Long.MAX_VALUE);
    }

    @Says(promise = 10, text = "SET (64 bits): those in both ours and theirs, those that either has and base has not")
    static void setsOf64Bits() {
        for (int bit : code(0, 31, 32, 63)) {
            for (int i = 0; i < 8; i++) {
                long base = (i & 1L) << bit;
                long ours = (i >> 1 & 1L) << bit;
                long theirs = (i >> 2 & 1L) << bit;
                boolean has = (ours & theirs) != 0 || (ours | theirs) != 0 && base == 0;
                due("bit " + bit + ", case " + i, joined(2, base, ours, theirs), has ? 1L << bit : 0);
            }
        }
        due("all bits", joined(2, 0, -1, 0), -1);
        due("no bit stays", joined(2, -1, 0, -1), 0);
    }

    @Says(promise = 10, text = "OWN: what its merge gives.")
    static void ownMergesAtTheirEdges() {
        due("base", joined(3, Long.MIN_VALUE, 2, 3, LOAD, 0, END, 0), Long.MIN_VALUE);
        due("ours", joined(3, 1, Long.MAX_VALUE, 3, LOAD, 1, END, 0), Long.MAX_VALUE);
        due("theirs", joined(3, 1, 2, -1, LOAD, 2, END, 0), -1);
        due("a number of its own", joined(3, 1, 2, 3, PUSH, 9, END, 0), 9);
        int[] way = code(LOAD, 0, ZERO, 4, PUSH, 1, END, 0, PUSH, 2, END, 0);
        due("the way of 0", joined(3, 0, 5, 6, way), 2);
        due("the other way", joined(3, 1L << 32, 5, 6, way), 1);
        due("what lies below its result goes", joined(3, 1, 2, 3, LOAD, 0, LOAD, 1, LOAD, 2, END, 0), 3);
    }

    @Says(promise = 10, text = "OWN: what its merge gives.")
    static void eachCellHasAMergeAnew() {
        VersionForks x = program(code(PUSH, 0, FORK, 1, JOIN, 0, END, 0),
                code(PUSH, 5, WRITE, 0, PUSH, 6, WRITE, 1, PUSH, 7, WRITE, 2, PUSH, 0, END, 0));
        x.merge();
        fill(x, LOAD, 0, PUSH, 3, PUSH, 3, LOAD, 1, LOAD, 2, END, 0);
        x.merge();
        fill(x, LOAD, 2, DUP, 0, ADD, 0, END, 0);
        x.cell(0, 3, 0);
        x.cell(1, 3, 1);
        x.cell(2, 3, 0);
        x.start();
        x.run(0);
        due("cell 0", x.read(0, 0), 5);
        due("cell 1", x.read(0, 1), 12);
        due("cell 2", x.read(0, 2), 7);
    }
}
