/** Each promise of the document by calls with the answers that are due. */
public final class PromiseTests extends Checks {
    private static void newObject() {
        VersionForks x = new VersionForks();
        due("tasks", x.tasks(), 0);
        due("fault", x.fault(), -1);
        for (int what = 0; what < 3; what++) {
            due("count " + what, x.count(what), 0);
        }
        refused("start", ARGUMENT, start(x));
        refused("run", STATE, () -> x.run(0));
        refused("add", STATE, () -> x.add(PUSH, 0));
        due("first block", x.block(), 0);
        VersionForks y = new VersionForks();
        due("first merge", y.merge(), 0);
        // Cells are plain at first: a join brings theirs as it is.
        VersionForks z = started(code(PUSH, 5, WRITE, 11, PUSH, 0, FORK, 1, JOIN, 0, END, 0),
                code(PUSH, 7, WRITE, 11, PUSH, 0, END, 0));
        z.run(0);
        due("a plain cell", z.read(0, 11), 7);
    }

    private static void blocks() {
        VersionForks x = new VersionForks();
        for (int i = 0; i < 6; i++) {
            due("block", x.block(), i);
        }
        refused("the seventh block", STATE, x::block);
        VersionForks y = started(JUST_END);
        refused("block in a run", STATE, y::block);
        y.run(0);
        refused("block behind the last step", STATE, y::block);
        y.reset();
        due("block behind reset", y.block(), 1);
    }

    private static void adding() {
        VersionForks x = new VersionForks();
        refused("operation 19 without a block", ARGUMENT, () -> x.add(19, 0));
        refused("operation 0 without a block", STATE, () -> x.add(0, 0));
        x.block();
        refused("operation -1", ARGUMENT, () -> x.add(-1, 0));
        refused("operation 19", ARGUMENT, () -> x.add(19, 0));
        for (int i = 1; i <= 24; i++) {
            due("add", x.add(i % 19, -i), i);
        }
        refused("the 25th of a block", STATE, () -> x.add(0, 0));
        refused("a wrong one for a full block", ARGUMENT, () -> x.add(19, 0));
        x.merge();
        for (int i = 1; i <= 12; i++) {
            due("add to a merge", x.add(18, 99), i);
        }
        refused("the 13th of a merge", STATE, () -> x.add(0, 0));
        x.block();
        due("add to the block begun after the merge", x.add(0, 0), 1);
        VersionForks y = started(JUST_END);
        refused("add in a run", STATE, () -> y.add(0, 0));
        refused("a wrong add in a run", ARGUMENT, () -> y.add(99, 0));
        y.reset();
        due("add behind reset goes to the same block", y.add(0, 0), 3);
    }

    private static void merging() {
        VersionForks x = new VersionForks();
        due("merge", x.merge(), 0);
        due("merge", x.merge(), 1);
        refused("the third merge", STATE, x::merge);
        VersionForks y = started(JUST_END);
        refused("merge in a run", STATE, y::merge);
        y.reset();
        due("merge behind reset", y.merge(), 0);
    }

    private static void cells() {
        VersionForks x = program(JUST_END);
        refused("cell 12", ARGUMENT, cell(x, 12, 0, 0));
        refused("cell -1", ARGUMENT, cell(x, -1, 0, 0));
        refused("kind 4", ARGUMENT, cell(x, 0, 4, 0));
        refused("kind -1", ARGUMENT, cell(x, 0, -1, 0));
        refused("merge 2", ARGUMENT, cell(x, 0, 3, 2));
        refused("merge -1", ARGUMENT, cell(x, 0, 3, -1));
        x.cell(11, 2, 1);
        x.start();
        refused("cell in a run", STATE, cell(x, 0, 0, 0));
        refused("a wrong cell in a run", ARGUMENT, cell(x, 12, 0, 0));
        x.reset();
        x.cell(0, 3, 1);
        refused("start without the merge", ARGUMENT, start(x));
        x.cell(0, 0, 1);
        x.start();
        due("a merge number is without meaning for other kinds", x.tasks(), 1);
    }

    private static void starting() {
        VersionForks x = new VersionForks();
        refused("start without blocks", ARGUMENT, start(x));
        x.merge();
        fill(x, LOAD, 2, END, 0);
        refused("start with a merge alone", ARGUMENT, start(x));
        x.block();
        refused("start with an empty block", ARGUMENT, start(x));
        due("nothing runs then", x.tasks(), 0);
        fill(x, PUSH, 4, DUP, 0, WRITE, 3, END, 0);
        x.cell(3, 3, 1);
        refused("start without merge 1", ARGUMENT, start(x));
        due("a missing merge is no fault", x.fault(), -1);
        x.cell(3, 3, 0);
        x.start();
        due("a task", x.tasks(), 1);
        due("a segment", x.count(0), 1);
        due("no cell", x.count(1), 0);
        due("steps", x.run(0), 4);
        due("written", x.count(1), 1);
        x.start();
        due("the run before is forgotten: cells", x.count(1), 0);
        due("the run before is forgotten: memory", x.read(0, 3), 0);
        due("the run before is forgotten: steps", x.task(0, 3), 0);
        due("the run before is forgotten: status", x.task(0, 0), 0);
        due("it goes again", x.step(0, 200), 4);
        VersionForks y = started(JUST_END);
        due("local 0 of task 0", resultOf(LOAD, 0, END, 0), 0);
        due("task 0 was forked by none", y.task(0, 2), -1);
    }

    private static void faultsOfBlocks() {
        due("none", faultOf(JUST_END), -1);
        due("an empty block", faultOf(JUST_END, code()), 100);
        due("local 4", faultOf(code(PUSH, 0, LOAD, 4, END, 0)), 1);
        due("local -1", faultOf(code(PUSH, 0, STORE, -1, PUSH, 0, END, 0)), 1);
        due("cell 12", faultOf(code(READ, 12, END, 0)), 0);
        due("cell -1", faultOf(code(PUSH, 0, WRITE, -1, PUSH, 0, END, 0)), 1);
        due("jump beyond", faultOf(code(JUMP, 1)), 0);
        due("jump before", faultOf(code(JUMP, -1)), 0);
        due("jump to itself", faultOf(code(JUMP, 0)), -1);
        due("zero beyond", faultOf(code(PUSH, 0, ZERO, 3, JUMP, 0)), 1);
        due("fork of no block", faultOf(code(PUSH, 0, FORK, 1, END, 0)), 1);
        due("fork of a block", faultOf(code(PUSH, 0, FORK, 1, END, 0), JUST_END), -1);
        due("fork of block -1", faultOf(code(PUSH, 0, FORK, -1, END, 0)), 1);
        due("other arguments are free", faultOf(code(PUSH, -9, DUP, 77, ADD, -1, END, 99)), -1);
        due("last is a POP", faultOf(code(PUSH, 0, POP, 0)), 1);
        due("last is a ZERO", faultOf(code(PUSH, 0, ZERO, 0)), 1);
        due("last is a JUMP", faultOf(code(PUSH, 0, POP, 0, JUMP, 0)), -1);
        due("fewer", faultOf(code(PUSH, 0, ADD, 0, END, 0)), 1);
        due("END needs one", faultOf(code(END, 0)), 0);
        due("DUP needs one", faultOf(code(DUP, 0, END, 0)), 0);
        due("six before END", faultOf(code(PUSH, 0, DUP, 0, DUP, 0, DUP, 0, DUP, 0, DUP, 0, END, 0)), -1);
        due("seven before END", faultOf(code(PUSH, 0, DUP, 0, DUP, 0, DUP, 0, DUP, 0, DUP, 0, DUP, 0, END, 0)), 7);
        due("a loop that grows", faultOf(code(PUSH, 0, JUMP, 0)), 0);
        due("two numbers behind a ZERO", faultOf(code(PUSH, 0, ZERO, 3, PUSH, 1, PUSH, 2, END, 0)), 3);
        due("what no way reaches is free", faultOf(code(JUMP, 0, ADD, 0, END, 0)), -1);
        due("but its arguments are not", faultOf(code(JUMP, 0, LOAD, 9, END, 0)), 1);
        due("the first sort ahead of the third", faultOf(code(ADD, 0, LOAD, 9, END, 0)), 1);
        due("the first sort ahead of the second", faultOf(code(LOAD, 9, POP, 0)), 0);
        due("the second sort ahead of the third", faultOf(code(ADD, 0, POP, 0)), 1);
        due("the lowest of the third", faultOf(code(PUSH, 1, ZERO, 4, PUSH, 1, END, 0, ADD, 0, END, 0)), 4);
        due("the first block", faultOf(JUST_END, code(ADD, 0, END, 0), code()), 100);
        // The way that comes with one number more goes on behind the instruction, to an earlier one.
        due("ways go on with two numbers",
                faultOf(code(JUMP, 2, JUMP, 1, PUSH, 1, PUSH, 1, ZERO, 1, JUMP, 2)), 1);
    }

    private static void faultsOfMerges() {
        due("a merge", faultOfMerge(LOAD, 2, END, 0), -1);
        due("an empty merge", faultOfMerge(), 1000);
        due("local 3", faultOfMerge(LOAD, 3, END, 0), 1000);
        due("last is no END", faultOfMerge(PUSH, 1, POP, 0), 1001);
        due("fewer", faultOfMerge(PUSH, 1, ADD, 0, END, 0), 1001);
        due("zero to a later one", faultOfMerge(LOAD, 0, ZERO, 2, LOAD, 1, END, 0), -1);
        due("zero to itself", faultOfMerge(LOAD, 0, ZERO, 1, LOAD, 1, END, 0), 1001);
        due("zero to an earlier one", faultOfMerge(LOAD, 0, ZERO, 0, LOAD, 1, END, 0), 1001);
        due("zero beyond", faultOfMerge(LOAD, 0, ZERO, 4, LOAD, 1, END, 0), 1001);
        for (int operation : code(STORE, READ, WRITE, JUMP, FORK, JOIN, PRINT)) {
            due("operation " + operation, faultOfMerge(PUSH, 1, DUP, 0, operation, 0, PUSH, 1, END, 0), 1002);
        }
        due("a jump as the last", faultOfMerge(PUSH, 1, JUMP, 0), 1001);
        VersionForks x = program(code(ADD, 0, END, 0));
        x.merge();
        due("blocks first", x.fault(), 0);
        VersionForks y = program(JUST_END);
        y.merge();
        fill(y, LOAD, 0, END, 0);
        y.merge();
        due("the second merge", y.fault(), 1100);
        refused("start with it", ARGUMENT, start(y));
        fill(y, LOAD, 0, END, 0);
        due("mended", y.fault(), -1);
        VersionForks z = new VersionForks();
        z.merge();
        due("a merge's without blocks", z.fault(), 1000);
    }

    private static void resetting() {
        VersionForks x = started(code(PUSH, 3, WRITE, 2, PUSH, 0, FORK, 0, END, 0));
        x.run(9);
        x.reset();
        due("tasks", x.tasks(), 0);
        for (int what = 0; what < 3; what++) {
            due("count " + what, x.count(what), 0);
        }
        refused("run", STATE, () -> x.run(1));
        refused("step", STATE, () -> x.step(0, 1));
        refused("read", ELEMENT, () -> x.read(0, 0));
        due("the program stays", x.fault(), -1);
        x.start();
        due("and runs again", x.step(0, 4), 4);
        due("from the beginning", x.read(0, 2), 3);
        new VersionForks().reset();
    }

    private static void operations() {
        due("PUSH", resultOf(PUSH, Integer.MIN_VALUE, END, 0), Integer.MIN_VALUE);
        due("LOAD", resultOf(LOAD, 3, END, 0), 0);
        due("STORE", resultOf(PUSH, 8, STORE, 3, LOAD, 3, LOAD, 3, ADD, 0, END, 0), 16);
        due("READ", resultOf(READ, 11, END, 0), 0);
        due("WRITE", resultOf(PUSH, 6, WRITE, 11, READ, 11, END, 0), 6);
        due("ADD", resultOf(PUSH, 7, PUSH, 5, ADD, 0, END, 0), 12);
        due("SUB", resultOf(PUSH, 7, PUSH, 5, SUB, 0, END, 0), 2);
        due("MUL", resultOf(PUSH, 7, PUSH, -5, MUL, 0, END, 0), -35);
        due("MUL beyond 64 bits", resultOf(PUSH, Integer.MIN_VALUE, DUP, 0, MUL, 0, DUP, 0, MUL, 0, END, 0), 0);
        due("ADD beyond 64 bits", resultOf(PUSH, Integer.MIN_VALUE, DUP, 0, MUL, 0, DUP, 0, ADD, 0, END, 0),
                Long.MIN_VALUE);
        due("AND", resultOf(PUSH, 12, PUSH, 10, AND, 0, END, 0), 8);
        due("OR", resultOf(PUSH, 12, PUSH, 10, OR, 0, END, 0), 14);
        due("LESS", resultOf(PUSH, 4, PUSH, 5, LESS, 0, END, 0), 1);
        due("LESS of equals", resultOf(PUSH, 5, PUSH, 5, LESS, 0, END, 0), 0);
        due("LESS of more", resultOf(PUSH, 6, PUSH, 5, LESS, 0, END, 0), 0);
        due("JUMP", resultOf(JUMP, 3, PUSH, 1, END, 0, PUSH, 2, END, 0), 2);
        due("ZERO of 0", resultOf(PUSH, 0, ZERO, 4, PUSH, 1, END, 0, PUSH, 2, END, 0), 2);
        due("ZERO of another", resultOf(PUSH, -1, ZERO, 4, PUSH, 1, END, 0, PUSH, 2, END, 0), 1);
        due("DUP", resultOf(PUSH, 3, DUP, 0, MUL, 0, END, 0), 9);
        due("POP", resultOf(PUSH, 3, PUSH, 4, POP, 0, END, 0), 3);
        due("END with more below", resultOf(PUSH, 3, PUSH, 4, END, 0), 4);
    }

    private static void stepping() {
        VersionForks x = program(code(PUSH, 1, FORK, 1, JOIN, 0, END, 0), code(LOAD, 0, PRINT, 0, LOAD, 0, END, 0));
        refused("step when nothing runs", STATE, () -> x.step(0, 0));
        x.start();
        refused("task 1 before the fork", STATE, () -> x.step(1, 1));
        refused("task -1", STATE, () -> x.step(-1, 1));
        refused("task 12, n 0", STATE, () -> x.step(12, 0));
        refused("n 0", ARGUMENT, () -> x.step(0, 0));
        refused("n 201", ARGUMENT, () -> x.step(0, 201));
        due("one", x.step(0, 1), 1);
        due("stops behind a JOIN that waits", x.step(0, 200), 2);
        due("waits again", x.step(0, 200), 1);
        due("steps of task 0", x.task(0, 3), 4);
        due("still one running", x.task(0, 0), 0);
        due("all of task 1", x.step(1, 200), 4);
        due("one that is over", x.step(1, 200), 0);
        refused("n 0 of one that is over", ARGUMENT, () -> x.step(1, 0));
        due("joins and ends", x.step(0, 200), 2);
        due("one that was joined", x.step(1, 5), 0);
        due("steps of task 0 at the end", x.task(0, 3), 6);
    }

    private static void tooManySteps() {
        VersionForks x = started(code(PUSH, 0, FORK, 1, POP, 0, JUMP, 3), code(READ, 0, POP, 0, JUMP, 0));
        for (int i = 0; i < 9; i++) {
            due("200 of task 0", x.step(0, 200), 200);
        }
        due("199 of task 1", x.step(1, 199), 199);
        due("the last one, and one that is none", x.step(0, 200), 1);
        due("failed", x.task(0, 0), 2);
        due("code", x.task(0, 1), 4);
        due("steps of task 0", x.task(0, 3), 1801);
        due("task 1 still runs", x.task(1, 0), 0);
        due("and fails with its next one", x.step(1, 1), 0);
        due("code of task 1", x.task(1, 1), 4);
        due("steps of task 1", x.task(1, 3), 199);
        x.start();
        due("run stops at 2000", x.run(0), 2000);
        due("code of task 0", x.task(0, 1), 4);
        x.start();
        due("run by a seed stops at 2000", x.run(77), 2000);
        due("steps of both", x.task(0, 3) + x.task(1, 3), 2000);
        due("it answers 0 then", x.run(77), 0);
        VersionForks y = started(code(PUSH, 0, FORK, 1, JOIN, 0, END, 0), code(JUMP, 0));
        y.step(0, 2);
        for (int i = 0; i < 9; i++) {
            y.step(1, 200);
        }
        y.step(1, 197);
        due("a JOIN that waits is the 2000th", y.step(0, 1), 1);
        due("it waits still", y.task(0, 0), 0);
        due("the next one fails", y.step(0, 1), 0);
        due("with code 4", y.task(0, 1), 4);
    }

    private static void running() {
        VersionForks x = program(code(PUSH, 5, FORK, 1, STORE, 1, PUSH, 6, FORK, 1, JOIN, 0, LOAD, 1, JOIN, 0, SUB, 0,
                END, 0), code(LOAD, 0, PRINT, 0, LOAD, 0, LOAD, 0, MUL, 0, END, 0));
        refused("nothing runs", STATE, () -> x.run(0));
        x.start();
        due("all steps", x.run(0), 22);
        due("result", x.print(0, -1), 11);
        due("first print", x.print(0, 0), 6);
        due("second print", x.print(0, 1), 5);
        due("task 0 is over", x.run(3), 0);
        for (int seed = -5; seed < 6; seed++) {
            x.start();
            due("all steps", x.run(seed), 22);
            due("result", x.print(0, -1), 11);
            due("first print", x.print(0, 0), 6);
        }
        // Task 0 ends without a join: what the others did till then tells the order.
        VersionForks y = program(code(PUSH, 0, FORK, 1, PUSH, 0, FORK, 1, READ, 0, POP, 0, END, 0),
                code(PUSH, 1, WRITE, 0, PUSH, 2, WRITE, 0, PUSH, 3, WRITE, 0, JUMP, 0));
        y.start();
        due("by 0 the greatest goes first", y.run(0), 2000);
        due("task 0 had two steps", y.task(0, 3), 2);
        due("task 1 had the rest", y.task(1, 3), 1998);
        for (int seed : code(1, 2, 3, -7, 123456789, Integer.MIN_VALUE)) {
            y.start();
            int[] steps = new int[3];
            int all = ordered(seed, steps);
            due("steps by seed " + seed, y.run(seed), all);
            for (int task = 0; task < y.tasks(); task++) {
                due("steps of task " + task + " by seed " + seed, y.task(task, 3), steps[task]);
            }
        }
    }

    /** The order of the program above by a seed: task 0 forks with its 2nd and 4th step, and ends with its 7th. */
    private static int ordered(int seed, int[] steps) {
        int r = seed;
        int all = 0;
        while (steps[0] < 7) {
            int ready = steps[0] < 2 ? 1 : steps[0] < 4 ? 2 : 3;
            r = r * 1103515245 + 12345;
            steps[(r >>> 16) % ready]++;
            all++;
        }
        return all;
    }

    private static void tasksTold() {
        VersionForks x = program(code(PUSH, 4, PRINT, 0, PUSH, 0, FORK, 1, JOIN, 0, END, 0),
                code(PUSH, 0, FORK, 2, POP, 0, PUSH, 1, PRINT, 0, PUSH, 2, PRINT, 0, PUSH, 9, END, 0),
                code(PUSH, 0, JOIN, 0, END, 0));
        refused("task when nothing runs", ELEMENT, () -> x.task(0, 9));
        x.start();
        refused("task 1", ELEMENT, () -> x.task(1, 0));
        refused("task -1", ELEMENT, () -> x.task(-1, 0));
        refused("task 1, what 5", ELEMENT, () -> x.task(1, 5));
        refused("what 5", ARGUMENT, () -> x.task(0, 5));
        refused("what -1", ARGUMENT, () -> x.task(0, -1));
        x.step(0, 4);
        x.step(1, 2);
        due("tasks", x.tasks(), 3);
        x.step(2, 9);
        due("task 2 failed", x.task(2, 0), 2);
        due("its code", x.task(2, 1), 1);
        due("its steps", x.task(2, 3), 2);
        due("who forked it", x.task(2, 2), 1);
        due("task 1 runs", x.task(1, 0), 0);
        x.run(0);
        due("task 1 was joined", x.task(1, 0), 3);
        due("its code", x.task(1, 1), 0);
        due("who forked it", x.task(1, 2), 0);
        due("its steps", x.task(1, 3), 9);
        due("task 0 ended", x.task(0, 0), 1);
        due("prints with those joined", x.task(0, 4), 3);
        due("tasks", x.tasks(), 3);
    }

    private static void tooManyTasks() {
        VersionForks x = started(code(PUSH, 0, FORK, 1, JOIN, 0, POP, 0, JUMP, 0), JUST_END);
        x.run(0);
        due("joined ones count", x.tasks(), 12);
        due("code", x.task(0, 1), 3);
        due("steps", x.task(0, 3), 11 * 5 + 2);
        due("one segment is left", x.count(0), 1);
    }

    private static void reading() {
        VersionForks x = program(code(PUSH, 5, WRITE, 0, PUSH, 0, FORK, 1, PUSH, 6, WRITE, 0, JOIN, 0, END, 0),
                code(PUSH, 7, WRITE, 1, READ, 0, END, 0));
        refused("read when nothing runs", ELEMENT, () -> x.read(0, 0));
        x.start();
        due("nowhere written", x.read(0, 0), 0);
        x.step(0, 4);
        due("below", x.read(1, 0), 5);
        x.step(0, 2);
        due("ours", x.read(0, 0), 6);
        due("theirs is as it was at the fork", x.read(1, 0), 5);
        x.step(1, 2);
        due("what the other wrote is not seen", x.read(0, 1), 0);
        due("it sees it itself", x.read(1, 1), 7);
        refused("task 2", ELEMENT, () -> x.read(2, 0));
        refused("task -1", ELEMENT, () -> x.read(-1, 0));
        refused("task 2, cell 12", ELEMENT, () -> x.read(2, 12));
        refused("cell 12", ARGUMENT, () -> x.read(0, 12));
        refused("cell -1", ARGUMENT, () -> x.read(1, -1));
        x.step(1, 9);
        due("of one that ended", x.read(1, 1), 7);
        x.run(0);
        due("result", x.print(0, -1), 5);
        due("only what was written is brought", x.read(0, 0), 6);
        due("brought", x.read(0, 1), 7);
        refused("of one that was joined", ELEMENT, () -> x.read(1, 1));
        refused("of one that was joined, cell 12", ELEMENT, () -> x.read(1, 12));
    }

    /** Cell 0 of a kind after a join, with what it had at the fork, ours and theirs. */
    private static long merged(int kind, int base, int ours, int theirs, int... merge) {
        VersionForks x = program(
                code(PUSH, base, WRITE, 0, PUSH, 0, FORK, 1, PUSH, ours, WRITE, 0, JOIN, 0, END, 0),
                code(PUSH, theirs, WRITE, 0, PUSH, 0, END, 0));
        if (merge.length > 0) {
            x.merge();
            fill(x, PUSH, 0, END, 0);
            x.merge();
            fill(x, merge);
        }
        x.cell(0, kind, 1);
        x.start();
        x.run(5);
        return x.read(0, 0);
    }

    private static void kinds() {
        due("plain", merged(0, 3, 5, 9), 9);
        due("plain with base again", merged(0, 3, 5, 3), 3);
        due("adding", merged(1, 3, 5, 9), 11);
        due("set", merged(2, 0b0011_0011, 0b0101_0101, 0b0000_1111), 0b0100_1101);
        due("set of all bits", merged(2, 0, -1, 0), -1);
        due("set that loses", merged(2, -1, -1, 0), 0);
        due("own, the base", merged(3, 3, 5, 9, LOAD, 0, END, 0), 3);
        due("own, ours", merged(3, 3, 5, 9, LOAD, 1, END, 0), 5);
        due("own, theirs", merged(3, 3, 5, 9, LOAD, 2, END, 0), 9);
        due("own, by all", merged(3, 3, 5, 9, LOAD, 1, LOAD, 2, MUL, 0, LOAD, 0, SUB, 0, END, 0), 42);
        int[] smaller = code(LOAD, 1, LOAD, 2, LESS, 0, ZERO, 6, LOAD, 1, END, 0, LOAD, 2, END, 0);
        due("own, a way", merged(3, 0, 5, 9, smaller), 5);
        due("own, the other way", merged(3, 0, 9, 5, smaller), 5);
        due("own, from a new stack each time", merged(3, 0, 1, 2, PUSH, 7, PUSH, 8, POP, 0, DUP, 0, END, 0), 7);
        // A cell that the joined task only joined counts as written by it, with the base at its own fork.
        VersionForks x = program(code(PUSH, 100, WRITE, 0, PUSH, 0, FORK, 1, PUSH, 110, WRITE, 0, JOIN, 0, END, 0),
                code(PUSH, 0, FORK, 2, JOIN, 0, END, 0), code(READ, 0, PUSH, 5, ADD, 0, WRITE, 0, PUSH, 0, END, 0));
        x.cell(0, 1, 0);
        x.start();
        x.run(0);
        due("joins count as writes", x.read(0, 0), 115);
        due("each join brought one", x.count(2), 2);
    }

    /** How task 0 fails when it joins a number. */
    private static int codeOfJoin(int number) {
        VersionForks x = started(code(PUSH, 0, FORK, 1, POP, 0, PUSH, number, JOIN, 0, END, 0), JUST_END);
        x.run(0);
        return x.task(0, 1);
    }

    private static void codes() {
        due("its own", codeOfJoin(1), 0);
        due("itself", codeOfJoin(0), 1);
        due("no task", codeOfJoin(2), 1);
        due("a number below 0", codeOfJoin(-1), 1);
        due("the least number", codeOfJoin(Integer.MIN_VALUE), 1);
        VersionForks far = started(code(PUSH, 0, FORK, 1, POP, 0, PUSH, Integer.MIN_VALUE, PUSH, -2, MUL, 0, PUSH, 1,
                ADD, 0, JOIN, 0, END, 0), JUST_END);
        far.run(0);
        due("a number beyond 32 bits", far.task(0, 1), 1);
        // A task that joins the one it was forked beside.
        VersionForks x = started(code(PUSH, 0, FORK, 1, DUP, 0, FORK, 2, JOIN, 0, END, 0), JUST_END,
                code(LOAD, 0, JOIN, 0, END, 0));
        x.run(0);
        due("a sibling", x.task(2, 1), 1);
        due("its joiner fails alike", x.task(0, 1), 1);
        due("the failed one is not joined by that", x.task(2, 0), 2);
        due("and its version is still there", x.read(2, 0), 0);
        // 0 joins 1 and then 2, that 1 has forked; then 2 again.
        int[] first = code(PUSH, 0, FORK, 1, JOIN, 0, DUP, 0, JOIN, 0, POP, 0, JOIN, 0, END, 0);
        VersionForks y = started(first, code(PUSH, 0, FORK, 2, END, 0), JUST_END);
        y.step(0, 2);
        y.step(1, 3);
        y.step(0, 2);
        due("a JOIN of a grandchild waits", y.step(0, 5), 1);
        y.run(0);
        due("a grandchild behind its parent", y.task(2, 0), 3);
        due("the second time", y.task(0, 1), 2);
        // 1 joins 2 and gives its number on: 2 was joined, in further steps by 0.
        VersionForks z = started(code(PUSH, 0, FORK, 1, JOIN, 0, JOIN, 0, END, 0),
                code(PUSH, 0, FORK, 2, DUP, 0, JOIN, 0, POP, 0, END, 0), JUST_END);
        z.run(0);
        due("joined by one that it joined", z.task(0, 1), 2);
        // A grandchild before its parent is joined is not its own.
        VersionForks w = started(code(PUSH, 0, FORK, 1, POP, 0, PUSH, 2, JOIN, 0, END, 0),
                code(PUSH, 0, FORK, 2, JOIN, 0, END, 0), JUST_END);
        w.run(0);
        due("a grandchild ahead of its parent", w.task(0, 1), 1);
    }

    private static void whatFails() {
        VersionForks x = started(code(PUSH, 3, WRITE, 0, PUSH, 0, FORK, 1, JOIN, 0, END, 0),
                code(PUSH, 8, WRITE, 1, PUSH, 8, PRINT, 0, PUSH, 1, JOIN, 0, END, 0));
        x.run(0);
        due("code", x.task(0, 1), 1);
        due("nothing is brought", x.read(0, 1), 0);
        due("nothing is brought, told", x.count(2), 0);
        due("no prints", x.task(0, 4), 0);
        due("segments stay", x.count(0), 3);
        due("it is a step", x.task(0, 3), 5);
        refused("no result", ELEMENT, () -> x.print(0, -1));
    }

    private static void printing() {
        VersionForks x = program(code(PUSH, 10, PRINT, 0, PUSH, 1, FORK, 1, PUSH, 2, FORK, 1, JOIN, 0, PRINT, 0,
                PUSH, 11, PRINT, 0, JOIN, 0, END, 0), code(LOAD, 0, PRINT, 0, LOAD, 0, PUSH, 100, ADD, 0, END, 0));
        refused("print when nothing runs", ELEMENT, () -> x.print(0, 0));
        x.start();
        refused("no print yet", ELEMENT, () -> x.print(0, 0));
        refused("no result yet", ELEMENT, () -> x.print(0, -1));
        refused("task 1", ELEMENT, () -> x.print(1, -1));
        refused("task -1", ELEMENT, () -> x.print(-1, -1));
        x.run(4);
        long[] due = {10, 2, 102, 11, 1};
        for (int k = 0; k < due.length; k++) {
            due("print " + k, x.print(0, k), due[k]);
        }
        due("result", x.print(0, -1), 101);
        refused("print 5", ELEMENT, () -> x.print(0, 5));
        refused("print -2", ELEMENT, () -> x.print(0, -2));
        refused("of one that was joined", ELEMENT, () -> x.print(1, 0));
        refused("the result of one that was joined", ELEMENT, () -> x.print(1, -1));
    }

    private static void tooManyPrints() {
        VersionForks x = started(prints(30));
        x.run(0);
        due("30 prints", x.task(0, 0), 1);
        due("30 prints, told", x.task(0, 4), 30);
        due("the last", x.print(0, 29), 1);
        refused("the 31st", ELEMENT, () -> x.print(0, 30));
        VersionForks y = started(prints(31));
        y.run(0);
        due("31 prints", y.task(0, 1), 4);
        due("30 stay", y.task(0, 4), 30);
        VersionForks z = started(code(PUSH, 0, PRINT, 0, PUSH, 0, FORK, 1, JOIN, 0, END, 0), prints(29));
        z.run(0);
        due("1 and 29", z.task(0, 0), 1);
        due("1 and 29, told", z.task(0, 4), 30);
        VersionForks w = started(code(PUSH, 0, PRINT, 0, PUSH, 0, FORK, 1, JOIN, 0, END, 0), prints(30));
        w.run(0);
        due("1 and 30", w.task(0, 1), 4);
        due("1 and 30 are not brought", w.task(0, 4), 1);
        due("nor is it joined", w.task(1, 0), 1);
        due("its result is there", w.print(1, -1), 5);
    }

    private static void counting() {
        VersionForks x = program(
                code(PUSH, 1, WRITE, 0, PUSH, 0, FORK, 1, PUSH, 2, WRITE, 0, PUSH, 3, WRITE, 1, JOIN, 0, JOIN, 0,
                        END, 0),
                code(PUSH, 4, WRITE, 2, PUSH, 0, FORK, 2, PUSH, 5, WRITE, 3, END, 0),
                code(PUSH, 6, WRITE, 2, PUSH, 7, END, 0));
        due("when nothing runs", x.count(0), 0);
        x.start();
        x.step(0, 4);
        due("segments behind a fork", x.count(0), 3);
        due("cells", x.count(1), 1);
        x.step(0, 4);
        due("a cell is written in two", x.count(1), 3);
        x.step(1, 9);
        due("segments behind two forks", x.count(0), 5);
        due("cells then", x.count(1), 5);
        due("none brought", x.count(2), 0);
        x.step(0, 1);
        // Left: the first one, that of task 0, that in which 2 was forked, that of 2.
        due("segments behind the first join", x.count(0), 4);
        due("cells behind the first join", x.count(1), 6);
        due("brought by the first", x.count(2), 2);
        x.run(0);
        due("one segment", x.count(0), 1);
        due("its cells", x.count(1), 4);
        due("brought by both", x.count(2), 3);
        due("what stays", x.read(0, 0), 2);
        due("what came last", x.read(0, 2), 6);
        due("result", x.print(0, -1), 7);
        due("count 3", x.count(3), -1);
        due("count -1", x.count(-1), -1);
        x.start();
        due("brought in this run", x.count(2), 0);
    }

    public static void main(String[] args) {
        tested = "promise 1";
        newObject();
        tested = "promise 2";
        blocks();
        tested = "promise 3";
        adding();
        tested = "promise 4";
        merging();
        tested = "promise 5";
        cells();
        tested = "promise 6";
        starting();
        tested = "promise 7";
        faultsOfBlocks();
        faultsOfMerges();
        tested = "promise 8";
        resetting();
        tested = "promise 9";
        operations();
        stepping();
        tooManySteps();
        tested = "promise 10";
        running();
        codes();
        whatFails();
        tested = "promise 11";
        tasksTold();
        tested = "promise 12";
        tooManyTasks();
        tested = "promise 13";
        reading();
        kinds();
        tested = "promise 14";
        printing();
        tooManyPrints();
        tested = "promise 15";
        counting();
        endWith("all promises hold");
    }
}
