import java.util.NoSuchElementException;

/** Programs of tasks that each work on a version of memory of their own, brought together by joins. */
public final class VersionForks {
    private static final int PUSH = 0;
    private static final int LOAD = 1;
    private static final int STORE = 2;
    private static final int READ = 3;
    private static final int WRITE = 4;
    private static final int ADD = 5;
    private static final int SUB = 6;
    private static final int MUL = 7;
    private static final int AND = 8;
    private static final int OR = 9;
    private static final int LESS = 10;
    private static final int JUMP = 11;
    private static final int ZERO = 12;
    private static final int FORK = 13;
    private static final int JOIN = 14;
    private static final int PRINT = 15;
    private static final int END = 16;
    private static final int DUP = 17;
    private static final int POP = 18;

    /** By operation: how many numbers it takes from the stack, and how many it puts there. */
    private static final int[] TAKES = {0, 0, 1, 0, 1, 2, 2, 2, 2, 2, 2, 0, 1, 1, 1, 1, 1, 1, 1};
    private static final int[] PUTS = {1, 1, 0, 1, 0, 1, 1, 1, 1, 1, 1, 0, 0, 1, 1, 0, 0, 2, 0};

    private static final int MOST_BLOCKS = 6;
    private static final int MOST_MERGES = 2;
    private static final int BLOCK_LENGTH = 24;
    private static final int MERGE_LENGTH = 12;
    private static final int CELLS = 12;
    private static final int LOCALS = 4;
    private static final int MERGE_LOCALS = 3;
    private static final int MOST_NUMBERS = 6;
    private static final int MOST_TASKS = 12;
    private static final int MOST_PRINTS = 30;
    private static final int MOST_STEPS = 2000;
    private static final int MOST_STEPS_A_CALL = 200;

    private static final int ADDING = 1;
    private static final int SET = 2;
    private static final int OWN = 3;

    private static final int RUNNING = 0;
    private static final int ENDED = 1;
    private static final int FAILED = 2;
    private static final int JOINED = 3;

    private static final int WAITS = -1;
    private static final int NO_CODE = 0;
    private static final int CODE_NOT_ITS_OWN = 1;
    private static final int CODE_JOINED_ALREADY = 2;
    private static final int CODE_TOO_MANY_TASKS = 3;
    private static final int CODE_TOO_MUCH = 4;

    private final Program program;
    private final World world;

    public VersionForks() {
        program = new Program();
        world = new World(program);
    }

    public int block() throws IllegalStateException {
        if (world.hasBegun() || !program.canBeginBlock()) {
            throw new IllegalStateException("no block can begin");
        }
        return program.beginBlock();
    }

    public int add(int operation, int a) throws IllegalArgumentException, IllegalStateException {
        if (!isWithin(operation, TAKES.length)) {
            throw new IllegalArgumentException("no such operation");
        }
        if (world.hasBegun() || !program.hasRoom()) {
            throw new IllegalStateException("no instruction can come");
        }
        return program.latest.append(operation, a);
    }

    public int merge() throws IllegalStateException {
        if (world.hasBegun() || !program.canBeginMerge()) {
            throw new IllegalStateException("no merge can begin");
        }
        return program.beginMerge();
    }

    public void cell(int cell, int kind, int merge) throws IllegalArgumentException, IllegalStateException {
        if (!isWithin(cell, CELLS) || !isWithin(kind, OWN + 1) || !isWithin(merge, MOST_MERGES)) {
            throw new IllegalArgumentException("no such cell, kind or merge");
        }
        if (world.hasBegun()) {
            throw new IllegalStateException("a run has begun");
        }
        program.kinds[cell] = kind;
        program.mergeNumbers[cell] = merge;
    }

    public void start() throws IllegalArgumentException {
        if (program.blockCount == 0 || program.lacksMerge() || program.firstFault() >= 0) {
            throw new IllegalArgumentException("the program cannot run");
        }
        world.begin();
    }

    public int fault() {
        return program.firstFault();
    }

    public void reset() {
        world.forget();
    }

    public int step(int task, int n) throws IllegalStateException, IllegalArgumentException {
        if (!world.hasTask(task)) {
            throw new IllegalStateException("no such task runs");
        }
        if (n < 1 || n > MOST_STEPS_A_CALL) {
            throw new IllegalArgumentException("no such number of steps");
        }
        Task going = world.tasks[task];
        for (int done = 0; done < n; done++) {
            if (going.status != RUNNING) {
                return done;
            }
            boolean waits = world.waits(going);
            if (!world.advance(going)) {
                return done;
            }
            if (waits) {
                return done + 1;
            }
        }
        return n;
    }

    public int run(int seed) throws IllegalStateException {
        if (!world.hasBegun()) {
            throw new IllegalStateException("nothing runs");
        }
        int before = world.steps;
        int r = seed;
        // A turn that is no step fails a task, so there are no more turns than this.
        for (int turn = 0; turn < MOST_STEPS + MOST_TASKS && world.tasks[0].status == RUNNING; turn++) {
            int readyCount = world.findReady();
            if (readyCount == 0) {
                break;
            }
            int pick = readyCount - 1;
            if (seed != 0) {
                r = r * 1103515245 + 12345;
                pick = (r >>> 16) % readyCount;
            }
            world.advance(world.ready[pick]);
        }
        return world.steps - before;
    }

    public int task(int task, int what) throws NoSuchElementException, IllegalArgumentException {
        if (!world.hasTask(task)) {
            throw new NoSuchElementException("no such task");
        }
        Task asked = world.tasks[task];
        switch (what) {
            case 0:
                return asked.status;
            case 1:
                return asked.code;
            case 2:
                return asked.parent == null ? -1 : asked.parent.number;
            case 3:
                return asked.steps;
            case 4:
                return asked.printCount;
            default:
                throw new IllegalArgumentException("no such what");
        }
    }

    public int tasks() {
        return world.taskCount;
    }

    public long read(int task, int cell) throws NoSuchElementException, IllegalArgumentException {
        if (!world.hasUnjoinedTask(task)) {
            throw new NoSuchElementException("no such task, or it was joined");
        }
        if (!isWithin(cell, CELLS)) {
            throw new IllegalArgumentException("no such cell");
        }
        return world.tasks[task].segment.lookUp(cell);
    }

    public long print(int task, int k) throws NoSuchElementException {
        if (!world.hasUnjoinedTask(task)) {
            throw new NoSuchElementException("no such task, or it was joined");
        }
        Task asked = world.tasks[task];
        if (k == -1 && asked.status == ENDED) {
            return asked.result;
        }
        if (!isWithin(k, asked.printCount)) {
            throw new NoSuchElementException("no such print or result");
        }
        return asked.prints[k];
    }

    public int count(int what) {
        switch (what) {
            case 0:
                return world.liveSegments();
            case 1:
                return world.writtenCells();
            case 2:
                return world.brought;
            default:
                return -1;
        }
    }

    private static boolean isWithin(int number, int bound) {
        return number >= 0 && number < bound;
    }

    /** The instructions of a block or of a merge. */
    private static final class Code {
        final boolean isMerge;
        private final int[] operations;
        private final int[] arguments;
        int length;

        Code(boolean isMerge) {
            this.isMerge = isMerge;
            int most = isMerge ? MERGE_LENGTH : BLOCK_LENGTH;
            operations = new int[most];
            arguments = new int[most];
        }

        boolean isFull() {
            return length >= operations.length;
        }

        int append(int operation, int argument) {
            if (!isFull()) {
                operations[length] = operation;
                arguments[length] = argument;
                length++;
            }
            return length;
        }

        /** END where there is no instruction, so that nothing ever goes on beyond the last one. */
        int operationAt(int place) {
            return place >= 0 && place < length ? operations[place] : END;
        }

        int argumentAt(int place) {
            return place >= 0 && place < length ? arguments[place] : 0;
        }
    }

    /** The blocks, merges and cells as they were told. */
    private static final class Program {
        final Code[] blocks = new Code[MOST_BLOCKS];
        final Code[] merges = new Code[MOST_MERGES];
        final int[] kinds = new int[CELLS];
        final int[] mergeNumbers = new int[CELLS];
        private final Checker checker = new Checker();
        int blockCount;
        int mergeCount;
        Code latest;

        Program() {
            for (int i = 0; i < MOST_BLOCKS; i++) {
                blocks[i] = new Code(false);
            }
            for (int i = 0; i < MOST_MERGES; i++) {
                merges[i] = new Code(true);
            }
        }

        boolean canBeginBlock() {
            return blockCount < MOST_BLOCKS;
        }

        int beginBlock() {
            if (canBeginBlock()) {
                latest = blocks[blockCount];
                blockCount++;
            }
            return blockCount - 1;
        }

        boolean canBeginMerge() {
            return mergeCount < MOST_MERGES;
        }

        int beginMerge() {
            if (canBeginMerge()) {
                latest = merges[mergeCount];
                mergeCount++;
            }
            return mergeCount - 1;
        }

        Code blockAt(int number) {
            return isWithin(number, blockCount) ? blocks[number] : blocks[0];
        }

        boolean hasRoom() {
            return latest != null && !latest.isFull();
        }

        Code mergeOf(int cell) {
            return merges[mergeNumbers[cell]];
        }

        boolean lacksMerge() {
            for (int cell = 0; cell < CELLS; cell++) {
                if (kinds[cell] == OWN && mergeNumbers[cell] >= mergeCount) {
                    return true;
                }
            }
            return false;
        }

        int firstFault() {
            for (int i = 0; i < blockCount; i++) {
                int place = checker.faultIn(blocks[i], blockCount);
                if (place >= 0) {
                    return 100 * i + place;
                }
            }
            for (int i = 0; i < mergeCount; i++) {
                int place = checker.faultIn(merges[i], blockCount);
                if (place >= 0) {
                    return 1000 + 100 * i + place;
                }
            }
            return -1;
        }
    }

    /** Looks for the fault of a block or a merge. */
    private static final class Checker {
        /** Numbers on the stack before an instruction: 0 to one more than allowed, where a way ends. */
        private static final int HEIGHTS = MOST_NUMBERS + 2;

        /** By instruction: bit h is set if it is reached with h numbers. */
        private final int[] heights = new int[BLOCK_LENGTH];
        /** Each instruction * HEIGHTS + height that was reached, once, in the order of finding. */
        private final int[] found = new int[BLOCK_LENGTH * HEIGHTS];
        private int foundCount;
        /** The lowest instruction that a way reached wrongly, or one beyond all. */
        private int lowest;

        /** The instruction that has the fault, or -1. */
        int faultIn(Code code, int blockCount) {
            for (int place = 0; place < code.length; place++) {
                if (!isAsSaid(code, place, blockCount)) {
                    return place;
                }
            }
            if (code.length == 0) {
                return 0;
            }
            int last = code.operationAt(code.length - 1);
            if (last != END && (last != JUMP || code.isMerge)) {
                return code.length - 1;
            }
            goAllWays(code);
            return lowest < code.length ? lowest : -1;
        }

        private static boolean isAsSaid(Code code, int place, int blockCount) {
            int argument = code.argumentAt(place);
            switch (code.operationAt(place)) {
                case LOAD:
                    return isWithin(argument, code.isMerge ? MERGE_LOCALS : LOCALS);
                case STORE:
                    return !code.isMerge && isWithin(argument, LOCALS);
                case READ:
                case WRITE:
                    return !code.isMerge && isWithin(argument, CELLS);
                case JUMP:
                    return !code.isMerge && isWithin(argument, code.length);
                case ZERO:
                    return isWithin(argument, code.length) && (!code.isMerge || argument > place);
                case FORK:
                    return !code.isMerge && isWithin(argument, blockCount);
                case JOIN:
                case PRINT:
                    return !code.isMerge;
                default:
                    return true;
            }
        }

        private void goAllWays(Code code) {
            for (int place = 0; place < code.length; place++) {
                heights[place] = 0;
            }
            foundCount = 0;
            lowest = code.length;
            reach(code, 0, 0);
            for (int i = 0; i < foundCount && i < found.length; i++) {
                int place = found[i] / HEIGHTS;
                int height = found[i] % HEIGHTS;
                if (height < TAKES[code.operationAt(place)] || height > MOST_NUMBERS) {
                    lowest = Math.min(lowest, place);
                } else {
                    goOn(code, place, height);
                }
            }
        }

        private void goOn(Code code, int place, int height) {
            int operation = code.operationAt(place);
            int after = height - TAKES[operation] + PUTS[operation];
            if (operation == JUMP || operation == ZERO) {
                reach(code, code.argumentAt(place), after);
            }
            if (operation != JUMP && operation != END) {
                reach(code, place + 1, after);
            }
        }

        private void reach(Code code, int place, int height) {
            boolean isNew = isWithin(place, code.length) && (heights[place] >> height & 1) == 0;
            if (!isNew || foundCount >= found.length) {
                return;
            }
            if (heights[place] != 0) {
                lowest = Math.min(lowest, place);
            }
            heights[place] |= 1 << height;
            found[foundCount] = place * HEIGHTS + height;
            foundCount++;
        }
    }

    /** A stack and locals, with the place in a code that works on them. */
    private static final class Frame {
        private final long[] stack = new long[MOST_NUMBERS + 1];
        private final long[] locals = new long[LOCALS];
        private Code code;
        private int place;
        private int height;

        void begin(Code code, long first) {
            this.code = code;
            place = 0;
            height = 0;
            for (int i = 1; i < LOCALS; i++) {
                locals[i] = 0;
            }
            locals[0] = first;
        }

        int operation() {
            return code.operationAt(place);
        }

        int argument() {
            return code.argumentAt(place);
        }

        void moveOn() {
            place++;
        }

        void push(long number) {
            if (height < stack.length) {
                stack[height] = number;
                height++;
            }
        }

        long pop() {
            if (height == 0) {
                return 0;
            }
            height--;
            return stack[height];
        }

        long top() {
            return height == 0 ? 0 : stack[height - 1];
        }

        /** Does the present instruction, one that needs nothing but stack and locals, and moves on. */
        void go() {
            int operation = code.operationAt(place);
            int argument = code.argumentAt(place);
            moveOn();
            switch (operation) {
                case PUSH:
                    push(argument);
                    break;
                case LOAD:
                    push(isWithin(argument, LOCALS) ? locals[argument] : 0);
                    break;
                case STORE:
                    if (isWithin(argument, LOCALS)) {
                        locals[argument] = pop();
                    }
                    break;
                case JUMP:
                    place = argument;
                    break;
                case ZERO:
                    if (pop() == 0) {
                        place = argument;
                    }
                    break;
                case DUP:
                    push(top());
                    break;
                case POP:
                    pop();
                    break;
                default:
                    long y = pop();
                    long x = pop();
                    push(reckon(operation, x, y));
            }
        }

        private static long reckon(int operation, long x, long y) {
            switch (operation) {
                case ADD:
                    return x + y;
                case SUB:
                    return x - y;
                case MUL:
                    return x * y;
                case AND:
                    return x & y;
                case OR:
                    return x | y;
                case LESS:
                    return x < y ? 1 : 0;
                default:
                    return 0;
            }
        }

        /** What a merge gives; it ends, as its ZERO leads only to later instructions. */
        long outcome(Code merge, long base, long ours, long theirs) {
            begin(merge, base);
            locals[1] = ours;
            locals[2] = theirs;
            for (int done = 0; done < merge.length && operation() != END; done++) {
                go();
            }
            return pop();
        }
    }

    /** What was written to cells between a fork or the start and what came next. */
    private static final class Segment {
        private final long[] values = new long[CELLS];
        /** Bit c is set if cell c is written here. */
        private int written;
        Segment below;
        boolean isLive;
        boolean isNeeded;

        void begin(Segment below) {
            this.below = below;
            written = 0;
            isLive = true;
        }

        boolean hasWritten(int cell) {
            return (written >> cell & 1) != 0;
        }

        void put(int cell, long value) {
            if (isWithin(cell, CELLS)) {
                values[cell] = value;
                written |= 1 << cell;
            }
        }

        long lookUp(int cell) {
            if (!isWithin(cell, CELLS)) {
                return 0;
            }
            for (Segment s = this; s != null; s = s.below) {
                if (s.hasWritten(cell)) {
                    return s.values[cell];
                }
            }
            return 0;
        }

        int writtenCount() {
            return Integer.bitCount(written);
        }

        /** The cells, as bits, that are written here and below, down to a segment that is left out. */
        int writtenAbove(Segment bottom) {
            int cells = 0;
            for (Segment s = this; s != null && s != bottom; s = s.below) {
                cells |= s.written;
            }
            return cells;
        }

        /** Takes in the segment below, which goes. */
        void takeIn(Segment lower) {
            for (int cell = 0; cell < CELLS; cell++) {
                if (lower.hasWritten(cell) && !hasWritten(cell)) {
                    values[cell] = lower.values[cell];
                    written |= 1 << cell;
                }
            }
            below = lower.below;
            lower.isLive = false;
        }
    }

    /** A task, from its fork on; its row of prints and its frame serve every run. */
    private static final class Task {
        final int number;
        final Frame frame = new Frame();
        final long[] prints = new long[MOST_PRINTS];
        int printCount;
        int status;
        int code;
        int steps;
        long result;
        Task parent;
        Task joiner;
        Segment forkedIn;
        Segment segment;

        Task(int number) {
            this.number = number;
        }

        void begin(Task parent, Segment forkedIn, Segment segment) {
            this.parent = parent;
            this.forkedIn = forkedIn;
            this.segment = segment;
            joiner = null;
            printCount = 0;
            status = RUNNING;
            code = NO_CODE;
            steps = 0;
            result = 0;
        }

        void fail(int code) {
            this.code = code;
            status = FAILED;
        }

        boolean canPrint(int more) {
            return printCount + more <= MOST_PRINTS;
        }

        void appendPrint(long number) {
            if (canPrint(1)) {
                prints[printCount] = number;
                printCount++;
            }
        }
    }

    /** A run: its tasks and segments. There is none while it has no task. */
    private static final class World {
        private final Program program;
        final Task[] tasks = new Task[MOST_TASKS];
        final Task[] ready = new Task[MOST_TASKS];
        /** Each fork opens two, and each task but the first has one fork: none is ever used twice in a run. */
        private final Segment[] segments = new Segment[2 * MOST_TASKS - 1];
        private final Frame merger = new Frame();
        int taskCount;
        private int opened;
        int steps;
        int brought;

        World(Program program) {
            this.program = program;
            for (int i = 0; i < tasks.length; i++) {
                tasks[i] = new Task(i);
            }
            for (int i = 0; i < segments.length; i++) {
                segments[i] = new Segment();
            }
        }

        boolean hasBegun() {
            return taskCount > 0;
        }

        boolean hasTask(int task) {
            return isWithin(task, taskCount);
        }

        boolean hasUnjoinedTask(int task) {
            return isWithin(task, taskCount) && tasks[task].status != JOINED;
        }

        void forget() {
            taskCount = 0;
            opened = 0;
            steps = 0;
            brought = 0;
        }

        void begin() {
            forget();
            tasks[0].begin(null, null, openSegment(null));
            tasks[0].frame.begin(program.blockAt(0), 0);
            taskCount = 1;
        }

        private Segment openSegment(Segment below) {
            if (opened >= segments.length) {
                return below;
            }
            Segment segment = segments[opened];
            opened++;
            segment.begin(below);
            return segment;
        }

        /** Fills the row of those that can go on, in order of their numbers: how many there are. */
        int findReady() {
            int readyCount = 0;
            for (int i = 0; i < taskCount; i++) {
                if (tasks[i].status == RUNNING && !waits(tasks[i])) {
                    ready[readyCount] = tasks[i];
                    readyCount++;
                }
            }
            return readyCount;
        }

        boolean waits(Task task) {
            return task.frame.operation() == JOIN && joinHindrance(task) == WAITS;
        }

        /** One step of a running task; false if it was one too many and failed the task instead. */
        boolean advance(Task task) {
            if (steps >= MOST_STEPS) {
                task.fail(CODE_TOO_MUCH);
                return false;
            }
            steps++;
            task.steps++;
            Frame frame = task.frame;
            switch (frame.operation()) {
                case READ:
                    frame.push(task.segment.lookUp(frame.argument()));
                    frame.moveOn();
                    break;
                case WRITE:
                    task.segment.put(frame.argument(), frame.pop());
                    frame.moveOn();
                    break;
                case FORK:
                    fork(task);
                    break;
                case JOIN:
                    join(task);
                    break;
                case PRINT:
                    printTop(task);
                    break;
                case END:
                    task.result = frame.pop();
                    task.status = ENDED;
                    break;
                default:
                    frame.go();
            }
            return true;
        }

        private void printTop(Task task) {
            if (!task.canPrint(1)) {
                task.fail(CODE_TOO_MUCH);
                return;
            }
            task.appendPrint(task.frame.pop());
            task.frame.moveOn();
        }

        private void fork(Task parent) {
            if (taskCount >= MOST_TASKS) {
                parent.fail(CODE_TOO_MANY_TASKS);
                return;
            }
            Task child = tasks[taskCount];
            taskCount++;
            Segment shared = parent.segment;
            child.begin(parent, shared, openSegment(shared));
            child.frame.begin(program.blockAt(parent.frame.argument()), parent.frame.pop());
            parent.segment = openSegment(shared);
            parent.frame.push(child.number);
            parent.frame.moveOn();
            layTogether();
        }

        private void join(Task joiner) {
            int hindrance = joinHindrance(joiner);
            if (hindrance == WAITS) {
                return;
            }
            Task other = taskToJoin(joiner);
            if (hindrance != NO_CODE || other == null) {
                joiner.fail(hindrance);
                return;
            }
            bringCells(joiner, other);
            for (int k = 0; k < other.printCount; k++) {
                joiner.appendPrint(other.prints[k]);
            }
            other.status = JOINED;
            other.joiner = joiner;
            joiner.frame.pop();
            joiner.frame.push(other.result);
            joiner.frame.moveOn();
            layTogether();
        }

        /** The code with which the JOIN that comes next would fail, or WAITS, or NO_CODE. */
        private int joinHindrance(Task joiner) {
            Task other = taskToJoin(joiner);
            if (other == null) {
                return CODE_NOT_ITS_OWN;
            }
            switch (other.status) {
                case JOINED:
                    return CODE_JOINED_ALREADY;
                case RUNNING:
                    return WAITS;
                case FAILED:
                    return other.code;
                default:
                    return joiner.canPrint(other.printCount) ? NO_CODE : CODE_TOO_MUCH;
            }
        }

        /** The task whose number lies on top, or null if the joiner has no right to it. */
        private Task taskToJoin(Task joiner) {
            long number = joiner.frame.top();
            if (number < 1 || number >= taskCount) {
                return null;
            }
            Task other = tasks[(int) number];
            return heirOf(other.parent) == joiner ? other : null;
        }

        /** Who may join what a task has forked: itself, or, behind joins, the last one that got it. */
        private static Task heirOf(Task task) {
            Task heir = task;
            for (int i = 0; i < MOST_TASKS && heir != null && heir.joiner != null; i++) {
                heir = heir.joiner;
            }
            return heir;
        }

        private void bringCells(Task joiner, Task other) {
            int cells = other.segment.writtenAbove(other.forkedIn);
            for (int cell = 0; cell < CELLS; cell++) {
                if ((cells >> cell & 1) != 0) {
                    long base = other.forkedIn.lookUp(cell);
                    long ours = joiner.segment.lookUp(cell);
                    long theirs = other.segment.lookUp(cell);
                    long value = program.kinds[cell] == OWN
                            ? merger.outcome(program.mergeOf(cell), base, ours, theirs)
                            : together(program.kinds[cell], base, ours, theirs);
                    joiner.segment.put(cell, value);
                    brought++;
                }
            }
        }

        private static long together(int kind, long base, long ours, long theirs) {
            switch (kind) {
                case ADDING:
                    return ours + theirs - base;
                case SET:
                    return (ours & theirs) | ((ours | theirs) & ~base);
                default:
                    return theirs;
            }
        }

        private void layTogether() {
            markNeeded();
            // What lies above was opened later, so one way down finds each segment with all that stays above it.
            for (int i = opened - 1; i >= 0; i--) {
                if (segments[i].isLive && !segments[i].isNeeded) {
                    layAway(segments[i]);
                }
            }
        }

        private void markNeeded() {
            for (int i = 0; i < opened; i++) {
                segments[i].isNeeded = false;
            }
            for (int i = 0; i < taskCount; i++) {
                if (tasks[i].status != JOINED) {
                    tasks[i].segment.isNeeded = true;
                    if (tasks[i].forkedIn != null) {
                        tasks[i].forkedIn.isNeeded = true;
                    }
                }
            }
        }

        private void layAway(Segment segment) {
            int aboveCount = 0;
            Segment above = null;
            for (int i = 0; i < opened; i++) {
                if (segments[i].isLive && segments[i].below == segment) {
                    above = segments[i];
                    aboveCount++;
                }
            }
            if (aboveCount == 0) {
                segment.isLive = false;
            } else if (aboveCount == 1 && above != null) {
                above.takeIn(segment);
            }
        }

        int liveSegments() {
            int live = 0;
            for (int i = 0; i < opened; i++) {
                live += segments[i].isLive ? 1 : 0;
            }
            return live;
        }

        int writtenCells() {
            int cells = 0;
            for (int i = 0; i < opened; i++) {
                cells += segments[i].isLive ? segments[i].writtenCount() : 0;
            }
            return cells;
        }
    }
}
