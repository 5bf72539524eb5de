import java.io.IOException;

/** Promises 1 to 8: each sentence that names an edge of the calls that make, check and start a program. */
public final class ProgramEdgeTests extends Sentences {
    private static final int[] TAKES = {0, 0, 1, 0, 1, 2, 2, 2, 2, 2, 2, 0, 1, 1, 1, 1, 1, 1, 1};
    private static final int[] PUTS = {1, 1, 0, 1, 0, 1, 1, 1, 1, 1, 1, 0, 0, 1, 1, 0, 0, 2, 0};
    private static final int[] NO_NUMBERS = {Integer.MIN_VALUE, -1};

    public static void main(String[] args) throws IOException, IllegalAccessException {
        holdAll(ProgramEdgeTests.class);
    }

    /** What a cell has behind a join, with a number at the fork, ours and theirs; x has its kind and the merges. */
    private static long joined(VersionForks x, int cell, int base, int ours, int theirs) {
        x.block();
        fill(x, PUSH, base, WRITE, cell, PUSH, 0, FORK, 1, PUSH, ours, WRITE, cell, JOIN, 0, END, 0);
        x.block();
        fill(x, PUSH, theirs, WRITE, cell, PUSH, 0, END, 0);
        x.start();
        x.run(0);
        return x.read(0, cell);
    }

    // Promise 1

    @Says(promise = 1, text = "No blocks, cells of kind 0, no merges, nothing runs.")
    static void aNewObjectHasNoBlocksAndMerges() {
        VersionForks x = new VersionForks();
        due("fault", x.fault(), -1);
        refused("add", STATE, () -> x.add(PUSH, 0));
        refused("start", ARGUMENT, start(x));
        due("the first block", x.block(), 0);
        due("the first merge", x.merge(), 0);
    }

    @Says(promise = 1, text = "No blocks, cells of kind 0, no merges, nothing runs.")
    static void inANewObjectNothingRuns() {
        VersionForks x = new VersionForks();
        due("tasks", x.tasks(), 0);
        for (int what = 0; what < 3; what++) {
            due("count " + what, x.count(what), 0);
        }
        refused("run", STATE, () -> x.run(0));
        refused("step", STATE, () -> x.step(0, 1));
        refused("task", ELEMENT, () -> x.task(0, 0));
        refused("read", ELEMENT, () -> x.read(0, 0));
        refused("print", ELEMENT, () -> x.print(0, 0));
    }

    @Says(promise = 1, text = "No blocks, cells of kind 0, no merges, nothing runs.")
    static void inANewObjectEachCellIsPlain() {
        for (int cell = 0; cell < 12; cell++) {
            due("cell " + cell, joined(new VersionForks(), cell, 3, 5, 9), 9);
        }
    }

    @Says(promise = 1, text = "An object is used for at most 512 calls after it has been made")
    static void all512CallsAnswer() {
        VersionForks x = program(code(PUSH, 4, WRITE, 2, PUSH, 0, FORK, 1, JOIN, 0, END, 0),
                code(PUSH, 8, WRITE, 3, PUSH, 1, FORK, 2, JOIN, 0, END, 0), code(LOAD, 0, PRINT, 0, READ, 3, END, 0));
        int calls = 3 + 6 + 6 + 4;
        for (; calls + 4 <= 512; calls += 4) {
            x.start();
            due("run", x.run(calls), 16);
            due("count", x.count(0), 1);
            due("print", x.print(0, -1), 8);
        }
    }

    @Says(promise = 1, text = "No blocks, cells of kind 0, no merges, nothing runs.")
    static void anotherObjectIsNotTouched() {
        VersionForks x = started(code(PUSH, 4, WRITE, 2, PUSH, 0, END, 0));
        VersionForks y = new VersionForks();
        due("its first block", y.block(), 0);
        fill(y, PUSH, 9, WRITE, 2, PUSH, 1, END, 0);
        y.start();
        x.run(0);
        due("its cell before its run", y.read(0, 2), 0);
        y.run(0);
        due("the cell of one", x.read(0, 2), 4);
        due("the cell of the other", y.read(0, 2), 9);
    }

    // Promise 2

    @Says(promise = 2, text = "A PROGRAM has at most 6 BLOCKS, numbered as they are begun")
    static void sixBlocksAreNumberedAndRun() {
        VersionForks x = new VersionForks();
        due("block", x.block(), 0);
        fill(x, PUSH, 9, FORK, 5, JOIN, 0, END, 0);
        for (int i = 1; i < 5; i++) {
            due("block", x.block(), i);
            fill(x, JUST_END);
        }
        due("the last block", x.block(), 5);
        fill(x, LOAD, 0, END, 0);
        x.start();
        x.run(0);
        due("the last block runs", x.print(0, -1), 9);
    }

    @Says(promise = 2, text = "IllegalStateException: there are six, or a run has begun.")
    static void aSeventhBlockIsRefused() {
        VersionForks x = program(JUST_END, JUST_END, JUST_END, JUST_END, JUST_END, code(PUSH, 0));
        refused("the seventh", STATE, x::block);
        refused("and again", STATE, x::block);
        due("what is added comes to the sixth", x.add(FORK, 6), 2);
        due("there is no block 6", x.fault(), 501);
    }

    @Says(promise = 2, text = "IllegalStateException: there are six, or a run has begun.")
    static void aSeventhBlockDoesNotTakeTheMergesPlace() {
        VersionForks x = program(JUST_END, JUST_END, JUST_END, JUST_END, JUST_END, JUST_END);
        x.merge();
        refused("the seventh", STATE, x::block);
        due("what is added comes to the merge", x.add(LOAD, 0), 1);
    }

    @Says(promise = 2, text = "IllegalStateException: there are six, or a run has begun.")
    static void noBlockBeginsInARun() {
        VersionForks x = started(JUST_END);
        refused("before the first step", STATE, x::block);
        x.run(0);
        refused("when task 0 is over", STATE, x::block);
        x.reset();
        due("behind reset", x.block(), 1);
    }

    @Says(promise = 2, text = "A new block begins: its number.")
    static void mergesDoNotChangeTheNumbersOfBlocks() {
        VersionForks x = new VersionForks();
        due("merge", x.merge(), 0);
        due("block", x.block(), 0);
        due("merge", x.merge(), 1);
        due("block", x.block(), 1);
    }

    // Promise 3

    @Says(promise = 3, text = "each of at most 24 INSTRUCTIONS (an operation with an argument)")
    static void twentyFourInstructionsAreAddedAndRun() {
        VersionForks x = new VersionForks();
        x.block();
        int[] full = all(code(PUSH, 0), times(11, PUSH, 1, ADD, 0), code(END, 0));
        for (int i = 0; i < 24; i++) {
            due("add", x.add(full[2 * i], full[2 * i + 1]), i + 1);
        }
        x.start();
        due("all of them go", x.run(0), 24);
        due("result", x.print(0, -1), 11);
    }

    @Says(promise = 3, text = "IllegalStateException: none was begun, it is full, or a run has begun.")
    static void aTwentyFifthInstructionIsRefused() {
        VersionForks x = program(all(code(PUSH, 0), times(11, PUSH, 1, ADD, 0), code(END, 0)));
        refused("the 25th", STATE, () -> x.add(PUSH, 0));
        refused("and again", STATE, () -> x.add(END, 0));
        due("nothing has come", x.fault(), -1);
        x.block();
        due("the next block has room", x.add(PUSH, 0), 1);
    }

    @Says(promise = 3, text = "each of at most 12 instructions of PUSH, LOAD")
    static void aThirteenthInstructionOfAMergeIsRefused() {
        VersionForks x = new VersionForks();
        x.merge();
        for (int i = 1; i <= 12; i++) {
            due("add", x.add(PUSH, 0), i);
        }
        refused("the 13th", STATE, () -> x.add(PUSH, 0));
        x.merge();
        due("the next merge has room", x.add(PUSH, 0), 1);
    }

    @Says(promise = 3, text = "IllegalStateException: none was begun, it is full, or a run has begun.")
    static void addNeedsABeginning() {
        VersionForks x = new VersionForks();
        refused("none was begun", STATE, () -> x.add(PUSH, 0));
        x.reset();
        refused("none was begun, behind reset", STATE, () -> x.add(PUSH, 0));
        x.merge();
        due("a merge is enough", x.add(PUSH, 0), 1);
    }

    @Says(promise = 3, text = "IllegalStateException: none was begun, it is full, or a run has begun.")
    static void nothingIsAddedInARun() {
        VersionForks x = started(JUST_END);
        refused("before the first step", STATE, () -> x.add(PUSH, 0));
        x.run(0);
        refused("when task 0 is over", STATE, () -> x.add(PUSH, 0));
        x.reset();
        due("behind reset, to the same block", x.add(PUSH, 0), 3);
    }

    @Says(promise = 3, text = "IllegalArgumentException: no such operation")
    static void operationsAre0To18() {
        VersionForks x = new VersionForks();
        x.block();
        for (int operation : code(Integer.MIN_VALUE, -1, 19, 20, 255, 256, Integer.MAX_VALUE)) {
            refused("operation " + operation, ARGUMENT, () -> x.add(operation, 0));
        }
        for (int operation = 0; operation <= 18; operation++) {
            due("operation " + operation, x.add(operation, 0), operation + 1);
        }
    }

    @Says(promise = 3, text = "IllegalArgumentException: no such operation")
    static void aWrongOperationIsToldAheadOfTheState() {
        VersionForks x = new VersionForks();
        refused("when none was begun", ARGUMENT, () -> x.add(19, 0));
        VersionForks y = started(JUST_END);
        refused("in a run", ARGUMENT, () -> y.add(-1, 0));
        VersionForks z = program(times(24, PUSH, 0));
        refused("when it is full", ARGUMENT, () -> z.add(19, 0));
    }

    @Says(promise = 3, text = "An instruction comes to the block (or merge) that was begun latest: how many it has.")
    static void addGoesToWhatWasBegunLatest() {
        VersionForks x = new VersionForks();
        x.block();
        due("block 0", x.add(PUSH, 1), 1);
        due("block 0", x.add(END, 0), 2);
        x.merge();
        due("merge 0", x.add(LOAD, 1), 1);
        x.block();
        due("block 1", x.add(PUSH, 1), 1);
        due("block 1 has no end", x.fault(), 100);
        due("block 1", x.add(END, 0), 2);
        due("merge 0 has no end", x.fault(), 1000);
    }

    @Says(promise = 3, text = "An instruction comes to the block (or merge) that was begun latest: how many it has.")
    static void addTakesAnyArgument() {
        VersionForks x = new VersionForks();
        x.block();
        due("LOAD of no local", x.add(LOAD, Integer.MAX_VALUE), 1);
        due("JUMP to nowhere", x.add(JUMP, Integer.MIN_VALUE), 2);
        due("the check tells it", x.fault(), 0);
    }

    // Promise 4

    @Says(promise = 4, text = "IllegalStateException: there are two, or a run has begun.")
    static void aThirdMergeIsRefused() {
        VersionForks x = program(JUST_END);
        due("merge", x.merge(), 0);
        due("merge", x.merge(), 1);
        refused("the third", STATE, x::merge);
        due("what is added comes to the second", x.add(LOAD, 0), 1);
        x.block();
        refused("the third, behind a block", STATE, x::merge);
        due("what is added comes to the block", x.add(PUSH, 0), 1);
    }

    @Says(promise = 4, text = "IllegalStateException: there are two, or a run has begun.")
    static void noMergeBeginsInARun() {
        VersionForks x = started(JUST_END);
        refused("before the first step", STATE, x::merge);
        x.run(0);
        refused("when task 0 is over", STATE, x::merge);
        x.reset();
        due("behind reset", x.merge(), 0);
    }

    @Says(promise = 4, text = "A new merge begins: its number.")
    static void blocksDoNotChangeTheNumbersOfMerges() {
        VersionForks x = new VersionForks();
        due("block", x.block(), 0);
        due("merge", x.merge(), 0);
        due("block", x.block(), 1);
        due("merge", x.merge(), 1);
    }

    @Says(promise = 4, text = "MERGES (for kind 3) are at most 2, each of at most 12 instructions")
    static void aFullMergeGives() {
        VersionForks x = new VersionForks();
        x.merge();
        fill(x, LOAD, 0, END, 0);
        x.merge();
        fill(x, all(code(LOAD, 2), times(5, PUSH, 1, ADD, 0), code(END, 0)));
        x.cell(4, 3, 1);
        due("theirs and 5", joined(x, 4, 3, 5, 9), 14);
    }

    // Promise 5

    @Says(promise = 5, text = "12 CELLS 0 .. 11, each of a KIND: 0 PLAIN (at first), 1 ADDING, 2 SET, 3 OWN")
    static void cellsAre0To11() {
        for (int cell : code(0, 11)) {
            VersionForks x = new VersionForks();
            x.cell(cell, 1, 0);
            due("cell " + cell, joined(x, cell, 3, 5, 9), 11);
        }
        VersionForks x = new VersionForks();
        for (int cell : code(Integer.MIN_VALUE, -1, 12, 13, Integer.MAX_VALUE)) {
            refused("cell " + cell, ARGUMENT, cell(x, cell, 0, 0));
        }
    }

    @Says(promise = 5, text = "12 CELLS 0 .. 11, each of a KIND: 0 PLAIN (at first), 1 ADDING, 2 SET, 3 OWN")
    static void kindsAre0To3() {
        long[] due = {9, 11, 13, 3};
        for (int kind = 0; kind <= 3; kind++) {
            VersionForks x = new VersionForks();
            x.merge();
            fill(x, LOAD, 0, END, 0);
            x.cell(0, kind, 0);
            due("kind " + kind, joined(x, 0, 3, 5, 9), due[kind]);
        }
        VersionForks x = new VersionForks();
        for (int kind : code(Integer.MIN_VALUE, -1, 4, 5, Integer.MAX_VALUE)) {
            refused("kind " + kind, ARGUMENT, cell(x, 0, kind, 0));
        }
    }

    @Says(promise = 5, text = "A cell of kind 3 has merge 0 or 1 (its number).")
    static void mergeNumbersAre0And1() {
        for (int number = 0; number < 2; number++) {
            VersionForks x = new VersionForks();
            x.merge();
            fill(x, LOAD, 0, END, 0);
            x.merge();
            fill(x, LOAD, 1, END, 0);
            x.cell(0, 3, number);
            due("by merge " + number, joined(x, 0, 3, 5, 9), number == 0 ? 3 : 5);
        }
        VersionForks x = new VersionForks();
        for (int merge : code(Integer.MIN_VALUE, -1, 2, 3, Integer.MAX_VALUE)) {
            refused("merge " + merge, ARGUMENT, cell(x, 0, 3, merge));
        }
    }

    @Says(promise = 5, text = "IllegalArgumentException: no such cell, kind or merge number")
    static void aRefusedCellStaysAsItWas() {
        VersionForks x = new VersionForks();
        x.cell(0, 1, 0);
        refused("no such kind", ARGUMENT, cell(x, 0, 4, 0));
        refused("no such merge", ARGUMENT, cell(x, 0, 3, 2));
        due("still adding", joined(x, 0, 3, 5, 9), 11);
        refused("in a run", STATE, cell(x, 0, 0, 0));
        x.start();
        x.run(0);
        due("adding still", x.read(0, 0), 11);
    }

    @Says(promise = 5, text = "IllegalStateException: a run has begun.")
    static void noCellChangesInARun() {
        VersionForks x = started(JUST_END);
        refused("before the first step", STATE, cell(x, 0, 0, 0));
        x.run(0);
        refused("when task 0 is over", STATE, cell(x, 0, 0, 0));
        refused("no such cell is told first", ARGUMENT, cell(x, 12, 0, 0));
        x.reset();
        x.cell(0, 0, 0);
    }

    @Says(promise = 5, text = "A cell has a kind, and a merge (0, 1; without meaning for other kinds).")
    static void aMergeHasNoMeaningForOtherKinds() {
        for (int kind = 0; kind < 3; kind++) {
            VersionForks x = program(JUST_END);
            x.cell(0, kind, 1);
            x.start();
            due("it runs without merges", x.tasks(), 1);
        }
    }

    @Says(promise = 5, text = "A cell has a kind, and a merge (0, 1; without meaning for other kinds).")
    static void theKindToldLastHolds() {
        VersionForks x = new VersionForks();
        x.cell(0, 3, 1);
        x.cell(0, 1, 0);
        x.cell(1, 0, 0);
        due("adding", joined(x, 0, 3, 5, 9), 11);
    }

    // Promise 6

    @Says(promise = 6, text = "the program has a fault (fault() tells it), there is no block, or a cell's merge is not"
            + " there.")
    static void aFaultIsNotStarted() {
        VersionForks x = program(JUST_END, code(PUSH, 0, FORK, 1));
        due("fault", x.fault(), 101);
        refused("start", ARGUMENT, start(x));
        due("nothing runs", x.tasks(), 0);
        due("the program can be changed", x.add(END, 0), 3);
        x.start();
        due("now it runs", x.tasks(), 1);
        VersionForks y = program(code(END, 0));
        due("the least fault", y.fault(), 0);
        refused("start with it", ARGUMENT, start(y));
    }

    @Says(promise = 6, text = "the program has a fault (fault() tells it), there is no block, or a cell's merge is not"
            + " there.")
    static void aFaultOfAMergeThatNoCellHasIsNotStarted() {
        VersionForks x = program(JUST_END);
        x.merge();
        due("fault", x.fault(), 1000);
        refused("start", ARGUMENT, start(x));
        fill(x, LOAD, 0, END, 0);
        x.start();
        due("now it runs", x.tasks(), 1);
    }

    @Says(promise = 6, text = "the program has a fault (fault() tells it), there is no block, or a cell's merge is not"
            + " there.")
    static void withoutABlockNothingStarts() {
        VersionForks x = new VersionForks();
        refused("a new object", ARGUMENT, start(x));
        x.merge();
        fill(x, LOAD, 0, END, 0);
        refused("a merge alone", ARGUMENT, start(x));
        due("nothing runs", x.tasks(), 0);
    }

    @Says(promise = 6, text = "the program has a fault (fault() tells it), there is no block, or a cell's merge is not"
            + " there.")
    static void withoutACellsMergeNothingStarts() {
        VersionForks x = program(JUST_END);
        for (int cell = 0; cell < 12; cell++) {
            x.cell(cell, 3, 0);
            refused("without the merge of cell " + cell, ARGUMENT, start(x));
            x.cell(cell, 0, 0);
        }
        x.merge();
        fill(x, LOAD, 0, END, 0);
        x.cell(11, 3, 1);
        refused("without merge 1", ARGUMENT, start(x));
        due("nothing runs", x.tasks(), 0);
        x.merge();
        fill(x, LOAD, 0, END, 0);
        x.start();
        due("now it runs", x.tasks(), 1);
    }

    @Says(promise = 6, text = "A run begins with task 0 (one that was before is forgotten).")
    static void theRunBeforeIsForgotten() {
        VersionForks x = started(code(PUSH, 3, WRITE, 0, PUSH, 4, PRINT, 0, PUSH, 0, FORK, 1, JOIN, 0, END, 0),
                code(PUSH, 5, WRITE, 1, PUSH, 6, END, 0));
        x.run(0);
        x.start();
        due("tasks", x.tasks(), 1);
        due("segments", x.count(0), 1);
        due("cells", x.count(1), 0);
        due("brought", x.count(2), 0);
        due("status", x.task(0, 0), 0);
        due("steps", x.task(0, 3), 0);
        due("prints", x.task(0, 4), 0);
        due("cell 0", x.read(0, 0), 0);
        due("cell 1", x.read(0, 1), 0);
        refused("result", ELEMENT, () -> x.print(0, -1));
        refused("task 1", ELEMENT, () -> x.task(1, 0));
    }

    @Says(promise = 6, text = "A run begins with task 0 (one that was before is forgotten).")
    static void segmentsThatWereNotLaidTogetherAreForgotten() {
        VersionForks x = started(code(PUSH, 3, WRITE, 0, PUSH, 0, FORK, 0, POP, 0, JUMP, 0));
        x.run(0);
        due("segments of 12 tasks", x.count(0), 23);
        due("a cell in each of them", x.count(1), 23);
        x.start();
        for (int steps = 1; steps <= 4; steps++) {
            x.step(0, 1);
            due("segments behind step " + steps, x.count(0), steps < 4 ? 1 : 3);
            due("cells behind step " + steps, x.count(1), steps < 2 ? 0 : 1);
        }
        due("the new task reads what is of this run", x.read(1, 0), 3);
    }

    @Says(promise = 6, text = "A run begins with task 0 (one that was before is forgotten).")
    static void aFailedRunIsForgotten() {
        VersionForks x = started(code(PUSH, 0, FORK, 0, JOIN, 0, END, 0));
        x.run(0);
        due("failed", x.task(0, 1), 3);
        x.start();
        due("code", x.task(0, 1), 0);
        due("status", x.task(0, 0), 0);
        due("it goes", x.step(0, 2), 2);
        due("tasks", x.tasks(), 2);
    }

    // As no program can be changed in a run, none comes to a fault while it runs: what can be tried is refused.
    @Says(promise = 6, text = "(The run before stays then.)")
    static void whatIsRefusedLeavesTheRun() {
        VersionForks x = started(code(PUSH, 3, WRITE, 0, PUSH, 0, END, 0));
        x.step(0, 2);
        refused("block", STATE, x::block);
        refused("merge", STATE, x::merge);
        refused("add", STATE, () -> x.add(POP, 0));
        refused("cell", STATE, cell(x, 0, 3, 1));
        due("steps", x.task(0, 3), 2);
        due("cell", x.read(0, 0), 3);
        due("it goes on", x.run(0), 2);
        x.start();
        due("and starts again", x.run(0), 4);
    }

    // Promise 7

    @Says(promise = 7, text = "an argument is not as said (a local, a cell, an instruction of the block; a block)")
    static void argumentsThatAreLocals() {
        for (int local : code(0, 3)) {
            due("LOAD " + local, faultOf(code(LOAD, local, END, 0)), -1);
            due("STORE " + local, faultOf(code(PUSH, 0, STORE, local, PUSH, 0, END, 0)), -1);
        }
        for (int local : all(NO_NUMBERS, code(4, 5, Integer.MAX_VALUE))) {
            due("LOAD " + local, faultOf(code(PUSH, 0, LOAD, local, END, 0)), 1);
            due("STORE " + local, faultOf(code(PUSH, 0, STORE, local, PUSH, 0, END, 0)), 1);
        }
    }

    @Says(promise = 7, text = "an argument is not as said (a local, a cell, an instruction of the block; a block)")
    static void argumentsThatAreCells() {
        for (int cell : code(0, 11)) {
            due("READ " + cell, faultOf(code(READ, cell, END, 0)), -1);
            due("WRITE " + cell, faultOf(code(PUSH, 0, WRITE, cell, PUSH, 0, END, 0)), -1);
        }
        for (int cell : all(NO_NUMBERS, code(12, 13, Integer.MAX_VALUE))) {
            due("READ " + cell, faultOf(code(PUSH, 0, READ, cell, END, 0)), 1);
            due("WRITE " + cell, faultOf(code(PUSH, 0, WRITE, cell, PUSH, 0, END, 0)), 1);
        }
    }

    @Says(promise = 7, text = "an argument is not as said (a local, a cell, an instruction of the block; a block)")
    static void argumentsThatAreInstructions() {
        due("JUMP to the first", faultOf(code(JUMP, 0)), -1);
        due("JUMP to the last", faultOf(code(PUSH, 0, JUMP, 2, END, 0)), -1);
        due("ZERO to the first", faultOf(code(PUSH, 0, ZERO, 0, PUSH, 0, END, 0)), -1);
        due("ZERO to the last", faultOf(code(PUSH, 0, DUP, 0, ZERO, 3, END, 0)), -1);
        for (int place : all(NO_NUMBERS, code(4, 5, Integer.MAX_VALUE))) {
            due("JUMP " + place, faultOf(code(PUSH, 0, JUMP, place, PUSH, 0, END, 0)), 1);
            due("ZERO " + place, faultOf(code(PUSH, 0, ZERO, place, PUSH, 0, END, 0)), 1);
        }
    }

    @Says(promise = 7, text = "an argument is not as said (a local, a cell, an instruction of the block; a block)")
    static void anInstructionThatComesLaterMendsAJump() {
        VersionForks x = new VersionForks();
        x.block();
        fill(x, JUMP, 1);
        due("not there yet", x.fault(), 0);
        fill(x, PUSH, 0, END, 0);
        due("there", x.fault(), -1);
    }

    @Says(promise = 7, text = "an argument is not as said (a local, a cell, an instruction of the block; a block)")
    static void argumentsThatAreBlocks() {
        due("FORK of the first", faultOf(code(PUSH, 0, FORK, 0, END, 0)), -1);
        due("FORK of the last", faultOf(code(PUSH, 0, FORK, 1, END, 0), JUST_END), -1);
        for (int block : all(NO_NUMBERS, code(2, 3, 6, Integer.MAX_VALUE))) {
            due("FORK " + block, faultOf(code(PUSH, 0, FORK, block, END, 0), JUST_END), 1);
        }
        VersionForks x = program(code(PUSH, 0, FORK, 1, END, 0));
        x.block();
        due("a block that was begun is there, but empty", x.fault(), 100);
    }

    @Says(promise = 7, text = "an argument is not as said (a local, a cell, an instruction of the block; a block)")
    static void otherArgumentsAreFree() {
        for (int a : code(Integer.MIN_VALUE, -1, 99, Integer.MAX_VALUE)) {
            due("PUSH, DUP, POP, PRINT, END with " + a,
                    faultOf(code(PUSH, a, DUP, a, DUP, a, POP, a, PRINT, a, PUSH, a, END, a)), -1);
            due("JOIN with " + a, faultOf(code(PUSH, 0, JOIN, a, END, 0)), -1);
            for (int operation = ADD; operation <= LESS; operation++) {
                due("operation " + operation + " with " + a,
                        faultOf(code(PUSH, 0, PUSH, 0, operation, a, END, 0)), -1);
            }
        }
    }

    @Says(promise = 7, text = "a block is empty, or its last instruction is none of JUMP and END")
    static void theLastInstructionIsAJumpOrAnEnd() {
        due("an empty block", faultOf(code()), 0);
        due("an empty one behind others", faultOf(JUST_END, JUST_END, code()), 200);
        for (int operation = 0; operation <= 18; operation++) {
            boolean fits = operation == JUMP || operation == END;
            due("last is " + operation, faultOf(code(PUSH, 0, END, 0, operation, 0)), fits ? -1 : 2);
        }
        due("an END in the middle is not enough", faultOf(code(PUSH, 0, END, 0, PUSH, 0)), 2);
    }

    @Says(promise = 7, text = "an instruction is reached with two different numbers of numbers on the stack")
    static void twoDifferentNumbersAreAFault() {
        due("a way with one more", faultOf(code(PUSH, 0, ZERO, 3, PUSH, 1, PUSH, 2, END, 0)), 3);
        due("a way with one fewer", faultOf(code(PUSH, 1, PUSH, 0, ZERO, 4, POP, 0, PUSH, 2, END, 0)), 4);
        due("both ways alike", faultOf(code(PUSH, 0, ZERO, 4, PUSH, 1, JUMP, 5, PUSH, 2, END, 0)), -1);
        due("the first one reached again with more", faultOf(code(PUSH, 0, JUMP, 0)), 0);
        due("a loop that takes", faultOf(code(PUSH, 0, PUSH, 0, PUSH, 0, POP, 0, JUMP, 3)), 3);
        due("a loop that stays", faultOf(code(PUSH, 0, POP, 0, JUMP, 0)), -1);
    }

    @Says(promise = 7, text = "with fewer than it takes")
    static void eachOperationNeedsWhatItTakes() {
        for (int operation = 0; operation <= 18; operation++) {
            int takes = TAKES[operation];
            int[] tail = code(operation, 0, PUSH, 0, END, 0);
            due("operation " + operation + " with enough", faultOf(all(times(takes, PUSH, 0), tail)), -1);
            if (takes > 0) {
                due("operation " + operation + " with one fewer", faultOf(all(times(takes - 1, PUSH, 0), tail)),
                        takes - 1);
            }
        }
    }

    @Says(promise = 7, text = "(take y, then x below it; put x op y, for LESS 1 or 0)")
    static void eachOperationPutsWhatIsSaid() {
        for (int operation = 0; operation <= 18; operation++) {
            if (operation != JUMP && operation != END) {
                int[] begin = all(times(TAKES[operation], PUSH, 0), code(operation, 0));
                int behind = TAKES[operation] + 1 + PUTS[operation];
                int[] end = code(PUSH, 0, END, 0);
                due("operation " + operation + " and as many POP as it puts",
                        faultOf(all(begin, times(PUTS[operation], POP, 0), end)), -1);
                due("operation " + operation + " and one POP more",
                        faultOf(all(begin, times(PUTS[operation] + 1, POP, 0), end)), behind);
            }
        }
    }

    @Says(promise = 7, text = "or with more than 6 (before it)")
    static void sixNumbersAreEnough() {
        for (int operation : code(PUSH, LOAD, READ, DUP)) {
            due("six before operation " + operation + ", and seven behind it",
                    faultOf(all(times(6, PUSH, 0), code(operation, 0, POP, 0, END, 0))), 7);
            due("six behind it", faultOf(all(times(5, PUSH, 0), code(operation, 0, POP, 0, END, 0))), -1);
        }
        for (int operation = 0; operation <= 18; operation++) {
            due("seven before operation " + operation,
                    faultOf(all(times(7, PUSH, 0), code(operation, 0, END, 0))), 7);
        }
        due("six are reckoned with", resultOf(all(times(6, PUSH, 7), times(5, ADD, 0), code(END, 0))), 42);
    }

    @Says(promise = 7, text = "The FAULT is told by 100 * the block + the instruction (0 of an empty one)")
    static void theGreatestFaultOfABlock() {
        due("the last of the last", faultOf(JUST_END, JUST_END, JUST_END, JUST_END, JUST_END, times(24, PUSH, 0)), 523);
        due("the first of the first", faultOf(code(END, 0)), 0);
        due("an empty last one", faultOf(JUST_END, JUST_END, JUST_END, JUST_END, JUST_END, code()), 500);
    }

    @Says(promise = 7, text = "the first block that has one")
    static void theFirstBlockIsTold() {
        due("a third sort ahead of a first one behind", faultOf(JUST_END, code(PUSH, 0, ADD, 0, END, 0),
                code(LOAD, 4, END, 0)), 101);
        due("an empty one ahead of a first one behind", faultOf(code(), code(LOAD, 4, END, 0)), 0);
        due("a second sort ahead of an empty one behind", faultOf(code(PUSH, 0, POP, 0), code()), 1);
    }

    @Says(promise = 7, text = "in it of the first of these three sorts that there is the lowest instruction")
    static void theFirstSortIsTold() {
        due("a first ahead of a second and a third", faultOf(code(ADD, 0, LOAD, 4, POP, 0)), 1);
        due("a second ahead of a third", faultOf(code(ADD, 0, PUSH, 0, POP, 0)), 2);
        due("the last one itself is of the first sort", faultOf(code(PUSH, 0, LOAD, 4)), 1);
        due("two of the first sort", faultOf(code(PUSH, 0, LOAD, 4, READ, 12, END, 0)), 1);
        due("two of the third", faultOf(code(PUSH, 0, ADD, 0, PUSH, 0, ADD, 0, POP, 0, POP, 0, END, 0)), 1);
        due("the lowest of the third, found last",
                faultOf(code(JUMP, 2, POP, 0, PUSH, 0, ZERO, 5, ADD, 0, JUMP, 1)), 1);
    }

    @Says(promise = 7, text = "all ways are gone that a block has, both ones of ZERO, from its first instruction with"
            + " no numbers")
    static void allWaysAreGone() {
        due("ZERO of a 0 goes on, too", faultOf(code(PUSH, 0, ZERO, 4, ADD, 0, END, 0, PUSH, 0, END, 0)), 2);
        due("ZERO of a 1 goes there, too", faultOf(code(PUSH, 1, ZERO, 4, PUSH, 0, END, 0, ADD, 0, END, 0)), 4);
        due("what no way reaches is free", faultOf(code(PUSH, 0, END, 0, ADD, 0, END, 0)), -1);
        due("behind JUMP no way goes on", faultOf(code(JUMP, 2, ADD, 0, PUSH, 0, END, 0)), -1);
        due("arguments are looked at everywhere", faultOf(code(PUSH, 0, END, 0, LOAD, 4, END, 0)), 2);
        // The lower one of the two that a full block reaches with other numbers is found with the last instruction.
        due("a long way round, twice", faultOf(all(code(JUMP, 2, JUMP, 1, PUSH, 0), times(9, LOAD, 0, POP, 0),
                code(LOAD, 0, ZERO, 1, JUMP, 2))), 1);
    }

    @Says(promise = 7, text = "where one is reached with fewer than it takes or more than 6, that way ends.")
    static void aWrongWayEnds() {
        due("with fewer", faultOf(code(JUMP, 3, ADD, 0, END, 0, POP, 0, JUMP, 1)), 3);
        due("with more", faultOf(all(code(JUMP, 2, JUMP, 1), times(7, PUSH, 0), code(JUMP, 1))), 9);
        due("a loop that puts ends with seven", faultOf(code(JUMP, 1, PUSH, 0, JUMP, 1)), 1);
    }

    @Says(promise = 7, text = "of PUSH, LOAD (locals 0 base, 1 ours, 2 theirs), ADD to LESS, ZERO (to a later"
            + " instruction), DUP, POP and END, last an END")
    static void whatAMergeMayHave() {
        for (int operation : code(PUSH, LOAD, ADD, SUB, MUL, AND, OR, LESS, DUP, POP, END)) {
            due("operation " + operation,
                    faultOfMerge(PUSH, 0, PUSH, 0, operation, 0, PUSH, 0, END, 0), -1);
        }
        for (int operation : code(STORE, READ, WRITE, JUMP, FORK, JOIN, PRINT)) {
            due("operation " + operation,
                    faultOfMerge(PUSH, 0, PUSH, 0, operation, 0, PUSH, 0, END, 0), 1002);
        }
        for (int local = 0; local < 3; local++) {
            due("local " + local, faultOfMerge(LOAD, local, END, 0), -1);
        }
    }

    @Says(promise = 7, text = "ZERO (to a later instruction)")
    static void aMergesZeroGoesForward() {
        due("to the next", faultOfMerge(PUSH, 0, ZERO, 2, PUSH, 0, END, 0), -1);
        due("to the last", faultOfMerge(PUSH, 1, PUSH, 0, ZERO, 5, DUP, 0, POP, 0, END, 0), -1);
        for (int place : all(NO_NUMBERS, code(0, 1, 4, 5, Integer.MAX_VALUE))) {
            due("to " + place, faultOfMerge(PUSH, 0, ZERO, place, PUSH, 0, END, 0), 1001);
        }
        due("to itself where no way comes", faultOfMerge(PUSH, 0, END, 0, ZERO, 2, PUSH, 0, END, 0), 1002);
        due("back where no way comes", faultOfMerge(PUSH, 0, END, 0, ZERO, 0, PUSH, 0, END, 0), 1002);
    }

    @Says(promise = 7, text = "last an END")
    static void aMergeEndsWithEnd() {
        due("an empty merge", faultOfMerge(), 1000);
        for (int operation : code(PUSH, LOAD, ADD, SUB, MUL, AND, OR, LESS, DUP, POP)) {
            due("last is " + operation, faultOfMerge(PUSH, 0, END, 0, operation, 0), 1002);
        }
        due("END alone has nothing to take", faultOfMerge(END, 0), 1000);
    }

    @Says(promise = 7, text = "checked like a block (another operation or local is a fault of the first sort)")
    static void aMergeIsCheckedLikeABlock() {
        for (int local : all(NO_NUMBERS, code(3, 4, Integer.MAX_VALUE))) {
            due("local " + local, faultOfMerge(PUSH, 0, LOAD, local, END, 0), 1001);
        }
        due("another operation ahead of the second sort", faultOfMerge(PUSH, 0, PRINT, 0, POP, 0), 1001);
        due("another local ahead of the third sort", faultOfMerge(ADD, 0, LOAD, 3, END, 0), 1001);
        due("a JUMP at the end is one of the first sort", faultOfMerge(ADD, 0, JUMP, 0), 1001);
        due("fewer", faultOfMerge(PUSH, 0, ADD, 0, END, 0), 1001);
        due("six", faultOfMerge(all(times(6, PUSH, 0), code(END, 0))), -1);
        due("seven", faultOfMerge(all(times(7, PUSH, 0), code(END, 0))), 1007);
        due("two numbers", faultOfMerge(PUSH, 0, ZERO, 3, PUSH, 1, PUSH, 2, END, 0), 1003);
        due("what no way reaches", faultOfMerge(PUSH, 0, END, 0, ADD, 0, END, 0), -1);
    }

    @Says(promise = 7, text = "of a merge 1000 + 100 * merge + instruction (blocks first)")
    static void theGreatestFaultOfAMerge() {
        VersionForks x = program(JUST_END);
        x.merge();
        fill(x, LOAD, 0, END, 0);
        x.merge();
        fill(x, times(6, PUSH, 0, POP, 0));
        due("the last of the last", x.fault(), 1111);
    }

    @Says(promise = 7, text = "of a merge 1000 + 100 * merge + instruction (blocks first)")
    static void blocksAreToldFirst() {
        VersionForks x = program(JUST_END);
        x.merge();
        x.merge();
        x.block();
        due("a block that came later", x.fault(), 100);
        fill(x, JUST_END);
        due("then the first merge", x.fault(), 1000);
    }

    @Says(promise = 7, text = "-1 if there is none (also without blocks, or where a cell's merge is not there)")
    static void whatIsNoFault() {
        VersionForks x = new VersionForks();
        due("without blocks", x.fault(), -1);
        x.cell(0, 3, 1);
        due("without blocks and merges", x.fault(), -1);
        VersionForks y = program(JUST_END);
        y.cell(0, 3, 0);
        due("without merge 0", y.fault(), -1);
        y.merge();
        fill(y, LOAD, 0, END, 0);
        y.cell(0, 3, 1);
        due("without merge 1", y.fault(), -1);
        y.cell(0, 3, 0);
        y.start();
        due("in a run", y.fault(), -1);
    }

    @Says(promise = 7, text = "-1 if there is none (also without blocks, or where a cell's merge is not there)")
    static void aMissingMergeHidesNoFault() {
        VersionForks x = program(code(PUSH, 0, ADD, 0, END, 0));
        x.cell(0, 3, 0);
        due("fault", x.fault(), 1);
        due("and again", x.fault(), 1);
    }

    // Promise 8

    @Says(promise = 8, text = "The program can be changed again; the run is forgotten.")
    static void behindResetTheProgramCanBeChanged() {
        VersionForks x = started(JUST_END);
        x.run(0);
        x.reset();
        due("add", x.add(JUMP, 0), 3);
        due("block", x.block(), 1);
        due("add", x.add(PUSH, 3), 1);
        due("add", x.add(END, 0), 2);
        due("merge", x.merge(), 0);
        fill(x, LOAD, 0, END, 0);
        x.cell(0, 3, 0);
        x.start();
        due("it runs", x.run(0), 2);
    }

    @Says(promise = 8, text = "The program can be changed again; the run is forgotten.")
    static void behindResetTheRunIsForgotten() {
        VersionForks x = started(code(PUSH, 3, WRITE, 0, PUSH, 0, FORK, 1, JOIN, 0, END, 0),
                code(PUSH, 4, WRITE, 1, PUSH, 0, END, 0));
        x.run(0);
        x.reset();
        due("tasks", x.tasks(), 0);
        for (int what = 0; what < 3; what++) {
            due("count " + what, x.count(what), 0);
        }
        refused("run", STATE, () -> x.run(0));
        refused("step", STATE, () -> x.step(0, 1));
        refused("task", ELEMENT, () -> x.task(0, 0));
        refused("read", ELEMENT, () -> x.read(0, 0));
        refused("print", ELEMENT, () -> x.print(0, -1));
        x.start();
        due("cells of the next run", x.count(1), 0);
    }

    @Says(promise = 8, text = "The program can be changed again; the run is forgotten.")
    static void resetNeedsNoRun() {
        VersionForks x = new VersionForks();
        x.reset();
        due("a new object", x.block(), 0);
        fill(x, JUST_END);
        x.reset();
        x.reset();
        due("the program stays", x.add(JUMP, 0), 3);
        x.start();
        due("it runs", x.run(0), 2);
    }
}
