import java.util.ArrayList;
import java.util.HashMap;
import java.util.HashSet;
import java.util.List;
import java.util.Map;
import java.util.NoSuchElementException;
import java.util.Set;
import java.util.TreeMap;
import java.util.TreeSet;

/**
 * Compares the class with a plain model of the document, and orders of steps with one another. It asks an object more
 * than the 512 times that are promised, as the class has no such bound: a comparison behind each call needs them.
 */
public final class ModelTests {
    private static final int PUSH = 0, LOAD = 1, STORE = 2, READ = 3, WRITE = 4, ADD = 5, LESS = 10, JUMP = 11,
            ZERO = 12, FORK = 13, JOIN = 14, PRINT = 15, END = 16, DUP = 17, POP = 18;

    private static int wrong = 0;

    private static void due(String what, Object got, Object want) {
        if (!got.equals(want)) {
            wrong++;
            if (wrong <= 20) {
                System.out.println(what + " answered " + got + ", due is " + want);
            }
        }
    }

    /** A fixed row of numbers. */
    private static final class Numbers {
        private long state;

        Numbers(long seed) {
            state = seed * 0x9E3779B97F4A7C15L + 1;
        }

        int below(int bound) {
            state ^= state << 13;
            state ^= state >>> 7;
            state ^= state << 17;
            return (int) Long.remainderUnsigned(state, bound);
        }

        boolean oneIn(int n) {
            return below(n) == 0;
        }
    }

    private static final class Node {
        final Map<Integer, Long> written = new HashMap<>();
        Node below;

        Node(Node below) {
            this.below = below;
        }
    }

    private static final class Actor {
        List<int[]> block;
        int place = 0;
        int status = 0;
        int code = 0;
        int steps = 0;
        long result = 0;
        Actor parent;
        final List<Actor> joined = new ArrayList<>();
        final List<Long> stack = new ArrayList<>();
        final long[] locals = new long[4];
        final List<Long> prints = new ArrayList<>();
        /** Its version as a whole, beside the segments: what it had at its fork, has now, and wrote. */
        long[] base = new long[12];
        long[] memory = new long[12];
        final Set<Integer> wrote = new HashSet<>();
        Node node;
        Node forkedIn;

        long pop() {
            return stack.remove(stack.size() - 1);
        }

        long top() {
            return stack.get(stack.size() - 1);
        }
    }

    /** The document, written as plainly as can be. */
    private static final class Model {
        final List<List<int[]>> blocks = new ArrayList<>();
        final List<List<int[]>> merges = new ArrayList<>();
        final int[] kinds = new int[12];
        final int[] mergeNumbers = new int[12];
        final List<Actor> actors = new ArrayList<>();
        final List<Node> nodes = new ArrayList<>();
        int steps = 0;
        int brought = 0;

        int fault() {
            for (int b = 0; b < blocks.size(); b++) {
                int place = fault(blocks.get(b), false);
                if (place >= 0) {
                    return 100 * b + place;
                }
            }
            for (int m = 0; m < merges.size(); m++) {
                int place = fault(merges.get(m), true);
                if (place >= 0) {
                    return 1000 + 100 * m + place;
                }
            }
            return -1;
        }

        private int fault(List<int[]> code, boolean merge) {
            for (int i = 0; i < code.size(); i++) {
                if (wrongArgument(code, i, merge)) {
                    return i;
                }
            }
            if (code.isEmpty()) {
                return 0;
            }
            int last = code.get(code.size() - 1)[0];
            if (last != END && (merge || last != JUMP)) {
                return code.size() - 1;
            }
            TreeMap<Integer, TreeSet<Integer>> heights = new TreeMap<>();
            TreeSet<Integer> bad = new TreeSet<>();
            go(code, 0, 0, heights, bad);
            for (Map.Entry<Integer, TreeSet<Integer>> e : heights.entrySet()) {
                if (e.getValue().size() > 1) {
                    bad.add(e.getKey());
                }
            }
            return bad.isEmpty() ? -1 : bad.first();
        }

        private boolean wrongArgument(List<int[]> code, int i, boolean merge) {
            int op = code.get(i)[0];
            int a = code.get(i)[1];
            boolean inMerge = op == PUSH || op == LOAD || op >= ADD && op <= LESS || op == ZERO || op == DUP || op == POP
                    || op == END;
            if (merge && !inMerge) {
                return true;
            }
            int low = 0;
            int high = Integer.MAX_VALUE;
            if (op == LOAD || op == STORE) {
                high = merge ? 2 : 3;
            } else if (op == READ || op == WRITE) {
                high = 11;
            } else if (op == JUMP || op == ZERO) {
                low = merge ? i + 1 : 0;
                high = code.size() - 1;
            } else if (op == FORK) {
                high = blocks.size() - 1;
            } else {
                return false;
            }
            return a < low || a > high;
        }

        private void go(List<int[]> code, int i, int height, TreeMap<Integer, TreeSet<Integer>> heights,
                TreeSet<Integer> bad) {
            if (!heights.computeIfAbsent(i, k -> new TreeSet<>()).add(height)) {
                return;
            }
            int op = code.get(i)[0];
            int a = code.get(i)[1];
            int needs = op >= ADD && op <= LESS ? 2 : op == PUSH || op == LOAD || op == READ || op == JUMP ? 0 : 1;
            if (height < needs || height > 6) {
                bad.add(i);
                return;
            }
            switch (op) {
                case PUSH: case LOAD: case READ: case DUP:
                    go(code, i + 1, height + 1, heights, bad);
                    break;
                case FORK: case JOIN:
                    go(code, i + 1, height, heights, bad);
                    break;
                case JUMP:
                    go(code, a, height, heights, bad);
                    break;
                case ZERO:
                    go(code, a, height - 1, heights, bad);
                    go(code, i + 1, height - 1, heights, bad);
                    break;
                case END:
                    break;
                default:
                    go(code, i + 1, height - 1, heights, bad);
            }
        }

        boolean canStart() {
            for (int c = 0; c < 12; c++) {
                if (kinds[c] == 3 && mergeNumbers[c] >= merges.size()) {
                    return false;
                }
            }
            return !blocks.isEmpty() && fault() < 0;
        }

        void start() {
            actors.clear();
            nodes.clear();
            steps = 0;
            brought = 0;
            Actor first = new Actor();
            first.block = blocks.get(0);
            first.node = open(null);
            actors.add(first);
        }

        private Node open(Node below) {
            Node node = new Node(below);
            nodes.add(node);
            return node;
        }

        int step(int number, int n) {
            Actor t = actors.get(number);
            int done = 0;
            while (done < n && t.status == 0) {
                boolean waits = waits(t);
                if (!one(t)) {
                    break;
                }
                done++;
                if (waits) {
                    break;
                }
            }
            return done;
        }

        int run(int seed) {
            int before = steps;
            int r = seed;
            while (actors.get(0).status == 0) {
                List<Actor> able = new ArrayList<>();
                for (Actor t : actors) {
                    if (t.status == 0 && !waits(t)) {
                        able.add(t);
                    }
                }
                r = r * 1103515245 + 12345;
                one(able.get(seed == 0 ? able.size() - 1 : (r >>> 16) % able.size()));
            }
            return steps - before;
        }

        private Set<Actor> mayJoin(Actor t) {
            Set<Actor> all = new HashSet<>();
            for (Actor u : actors) {
                if (u.parent == t) {
                    all.add(u);
                }
            }
            for (Actor u : t.joined) {
                all.addAll(mayJoin(u));
            }
            return all;
        }

        /** -1 it waits, 0 it joins, or the code. */
        private int joinCode(Actor t) {
            long number = t.top();
            if (number < 0 || number >= actors.size() || !mayJoin(t).contains(actors.get((int) number))) {
                return 1;
            }
            Actor u = actors.get((int) number);
            if (u.status == 3) {
                return 2;
            }
            if (u.status == 0) {
                return -1;
            }
            if (u.status == 2) {
                return u.code;
            }
            return t.prints.size() + u.prints.size() > 30 ? 4 : 0;
        }

        private boolean waits(Actor t) {
            return t.block.get(t.place)[0] == JOIN && joinCode(t) == -1;
        }

        private void fail(Actor t, int code) {
            t.status = 2;
            t.code = code;
        }

        private void write(Actor t, int cell, long value) {
            t.memory[cell] = value;
            t.wrote.add(cell);
            t.node.written.put(cell, value);
        }

        private boolean one(Actor t) {
            if (steps == 2000) {
                fail(t, 4);
                return false;
            }
            steps++;
            t.steps++;
            int op = t.block.get(t.place)[0];
            int a = t.block.get(t.place)[1];
            if (op == JOIN) {
                int code = joinCode(t);
                if (code > 0) {
                    fail(t, code);
                } else if (code == 0) {
                    join(t, actors.get((int) t.pop()));
                    t.place++;
                }
            } else if (op == FORK) {
                if (actors.size() == 12) {
                    fail(t, 3);
                } else {
                    fork(t, a);
                    t.place++;
                }
            } else if (op == PRINT) {
                if (t.prints.size() == 30) {
                    fail(t, 4);
                } else {
                    t.prints.add(t.pop());
                    t.place++;
                }
            } else if (op == END) {
                t.result = t.pop();
                t.status = 1;
            } else if (op == READ) {
                t.stack.add(t.memory[a]);
                t.place++;
            } else if (op == WRITE) {
                write(t, a, t.pop());
                t.place++;
            } else {
                t.place = plain(op, a, t.place, t.stack, t.locals);
            }
            return true;
        }

        private int plain(int op, int a, int place, List<Long> stack, long[] locals) {
            if (op == PUSH) {
                stack.add((long) a);
            } else if (op == LOAD) {
                stack.add(locals[a]);
            } else if (op == STORE) {
                locals[a] = stack.remove(stack.size() - 1);
            } else if (op == JUMP) {
                return a;
            } else if (op == ZERO) {
                return stack.remove(stack.size() - 1) == 0 ? a : place + 1;
            } else if (op == DUP) {
                stack.add(stack.get(stack.size() - 1));
            } else if (op == POP) {
                stack.remove(stack.size() - 1);
            } else {
                long y = stack.remove(stack.size() - 1);
                long x = stack.remove(stack.size() - 1);
                long[] all = {x + y, x - y, x * y, x & y, x | y, x < y ? 1 : 0};
                stack.add(all[op - ADD]);
            }
            return place + 1;
        }

        private void fork(Actor t, int block) {
            Actor u = new Actor();
            u.block = blocks.get(block);
            u.locals[0] = t.pop();
            u.parent = t;
            u.base = t.memory.clone();
            u.memory = t.memory.clone();
            u.forkedIn = t.node;
            u.node = open(t.node);
            t.node = open(t.node);
            t.stack.add((long) actors.size());
            actors.add(u);
            layTogether();
        }

        private void join(Actor t, Actor u) {
            for (int cell : u.wrote) {
                write(t, cell, merged(cell, u.base[cell], t.memory[cell], u.memory[cell]));
                brought++;
            }
            t.prints.addAll(u.prints);
            t.joined.add(u);
            u.status = 3;
            t.stack.add(u.result);
            layTogether();
        }

        private long merged(int cell, long base, long ours, long theirs) {
            if (kinds[cell] == 0) {
                return theirs;
            }
            if (kinds[cell] == 1) {
                return ours + theirs - base;
            }
            if (kinds[cell] == 2) {
                long bits = 0;
                for (int i = 0; i < 64; i++) {
                    boolean b = (base >>> i & 1) == 1;
                    boolean o = (ours >>> i & 1) == 1;
                    boolean t = (theirs >>> i & 1) == 1;
                    if (o && t || (o || t) && !b) {
                        bits |= 1L << i;
                    }
                }
                return bits;
            }
            List<int[]> merge = merges.get(mergeNumbers[cell]);
            List<Long> stack = new ArrayList<>();
            long[] locals = {base, ours, theirs};
            int place = 0;
            while (merge.get(place)[0] != END) {
                place = plain(merge.get(place)[0], merge.get(place)[1], place, stack, locals);
            }
            return stack.get(stack.size() - 1);
        }

        private void layTogether() {
            while (layOne()) {
            }
        }

        private boolean layOne() {
            for (Node node : nodes) {
                boolean needed = false;
                for (Actor t : actors) {
                    needed |= t.status != 3 && (t.node == node || t.forkedIn == node);
                }
                List<Node> above = new ArrayList<>();
                for (Node other : nodes) {
                    if (other.below == node) {
                        above.add(other);
                    }
                }
                if (!needed && above.size() < 2) {
                    for (Node upper : above) {
                        node.written.forEach(upper.written::putIfAbsent);
                        upper.below = node.below;
                    }
                    nodes.remove(node);
                    return true;
                }
            }
            return false;
        }

        int cells() {
            int cells = 0;
            for (Node node : nodes) {
                cells += node.written.size();
            }
            return cells;
        }

        long readInNodes(Actor t, int cell) {
            for (Node node = t.node; node != null; node = node.below) {
                if (node.written.containsKey(cell)) {
                    return node.written.get(cell);
                }
            }
            return 0;
        }
    }

    /** Whether the result of a block is the number of a task. */
    private static boolean givesTask(int block) {
        return block % 2 == 1;
    }

    /**
     * A block of small pieces that leave the stack as it was, so that most have no fault. Numbers of tasks go to JOIN
     * alone, unless anyNumbers.
     */
    private static List<int[]> piecedBlock(Numbers n, int self, int blocks, boolean anyNumbers) {
        List<int[]> code = new ArrayList<>();
        // What locals 1 to 3 hold: 0 nothing, 1 + b the number of a task in block b, -1 of a task in some block.
        int[] held = new int[4];
        while (code.size() < 17 && !n.oneIn(14)) {
            int from = code.size();
            int local = 1 + n.below(3);
            switch (n.below(anyNumbers && n.oneIn(6) ? 10 : 8)) {
                case 0:
                    put(code, PUSH, n.below(9) - 2, WRITE, n.below(5));
                    break;
                case 1:
                    put(code, READ, n.below(5), PUSH, n.below(9) - 2, ADD + n.below(6), 0, WRITE, n.below(5));
                    break;
                case 2: case 3:
                    int block = n.oneIn(20) ? n.below(blocks) : self + 1 + n.below(2);
                    if (block >= blocks) {
                        break;
                    }
                    put(code, READ, n.below(5), FORK, block, STORE, local);
                    held[local] = 1 + block;
                    break;
                case 4: case 5: case 6:
                    local = heldLocal(n, held);
                    if (held[local] == 0 && !n.oneIn(30)) {
                        break;
                    }
                    if (held[local] > 0 && givesTask(held[local] - 1)) {
                        put(code, LOAD, local, JOIN, 0, STORE, local);
                        held[local] = -1;
                    } else {
                        put(code, LOAD, local, JOIN, 0, held[local] > 0 && n.oneIn(2) ? PRINT : POP, 0);
                        held[local] = n.oneIn(6) ? held[local] : 0;
                    }
                    break;
                case 7:
                    put(code, READ, n.below(5), ZERO, from + 5, LOAD, 0, DUP, 0, PRINT, 0);
                    code.set(from + 3, new int[] {WRITE, n.below(5)});
                    code.set(from + 4, new int[] {JUMP, from + 5});
                    break;
                case 8:
                    put(code, LOAD, n.below(4), JOIN, 0, WRITE, n.below(5));
                    break;
                default:
                    put(code, LOAD, n.below(4), DUP, 0, PRINT, 0, FORK, n.below(blocks), STORE, n.below(4));
            }
            if (anyNumbers && n.oneIn(25)) {
                put(code, JUMP, from);
                return code;
            }
        }
        put(code, givesTask(self) ? LOAD : READ, givesTask(self) ? heldLocal(n, held) : n.below(5), END, 0);
        return code;
    }

    private static int heldLocal(Numbers n, int[] held) {
        int local = 1 + n.below(3);
        for (int i = 0; i < 9 && held[local] == 0; i++) {
            local = 1 + n.below(3);
        }
        return local;
    }

    private static void put(List<int[]> code, int... pairs) {
        for (int i = 0; i < pairs.length; i += 2) {
            code.add(new int[] {pairs[i], pairs[i + 1]});
        }
    }

    private static List<int[]> anyCode(Numbers n, int most) {
        List<int[]> code = new ArrayList<>();
        int length = n.below(most + 1);
        for (int i = 0; i < length; i++) {
            put(code, n.oneIn(3) ? n.below(2) * PUSH : n.below(19), n.oneIn(40) ? n.below(40) - 8 : n.below(3));
        }
        if (!n.oneIn(8) && length > 0) {
            code.set(length - 1, new int[] {n.oneIn(3) ? JUMP : END, n.below(length)});
        }
        return code;
    }

    private static List<int[]> anyMerge(Numbers n) {
        List<int[]> code = new ArrayList<>();
        put(code, LOAD, n.below(3), LOAD, n.below(3), ADD + n.below(6), 0);
        if (n.oneIn(2)) {
            put(code, DUP, 0, ZERO, 7, LOAD, n.below(3), ADD + n.below(6), 0);
        }
        put(code, END, 0);
        return code;
    }

    private static VersionForks told(Model m) {
        VersionForks x = new VersionForks();
        for (List<int[]> block : m.blocks) {
            x.block();
            for (int[] instruction : block) {
                x.add(instruction[0], instruction[1]);
            }
        }
        for (List<int[]> merge : m.merges) {
            x.merge();
            for (int[] instruction : merge) {
                x.add(instruction[0], instruction[1]);
            }
        }
        for (int c = 0; c < 12; c++) {
            x.cell(c, m.kinds[c], m.mergeNumbers[c]);
        }
        return x;
    }

    private static String printOf(VersionForks x, int task, int k) {
        try {
            return "" + x.print(task, k);
        } catch (NoSuchElementException e) {
            return "none";
        }
    }

    private static String readOf(VersionForks x, int task, int cell) {
        try {
            return "" + x.read(task, cell);
        } catch (NoSuchElementException e) {
            return "none";
        }
    }

    private static void compare(String name, VersionForks x, Model m) {
        due(name + " tasks", x.tasks(), m.actors.size());
        due(name + " segments", x.count(0), m.nodes.size());
        due(name + " cells", x.count(1), m.cells());
        due(name + " brought", x.count(2), m.brought);
        for (int i = 0; i < Math.min(x.tasks(), m.actors.size()); i++) {
            Actor t = m.actors.get(i);
            String task = name + " task " + i;
            due(task + " status", x.task(i, 0), t.status);
            due(task + " code", x.task(i, 1), t.code);
            due(task + " parent", x.task(i, 2), m.actors.indexOf(t.parent));
            due(task + " steps", x.task(i, 3), t.steps);
            due(task + " prints", x.task(i, 4), t.prints.size());
            due(task + " result", printOf(x, i, -1), t.status == 1 ? "" + t.result : "none");
            for (int k = 0; k < t.prints.size(); k++) {
                due(task + " print " + k, printOf(x, i, k), t.status == 3 ? "none" : "" + t.prints.get(k));
            }
            for (int c = 0; c < 12; c++) {
                due(task + " cell " + c, readOf(x, i, c), t.status == 3 ? "none" : "" + t.memory[c]);
                if (t.status != 3) {
                    due(task + " cell " + c + " in the model's segments", m.readInNodes(t, c), t.memory[c]);
                }
            }
        }
    }

    private static Model piecedModel(Numbers n, boolean anyNumbers) {
        Model m = new Model();
        int blocks = 2 + n.below(5);
        for (int b = 0; b < blocks; b++) {
            m.blocks.add(piecedBlock(n, b, blocks, anyNumbers));
        }
        m.merges.add(anyMerge(n));
        m.merges.add(anyMerge(n));
        for (int c = 0; c < 12; c++) {
            m.kinds[c] = n.below(4);
            m.mergeNumbers[c] = n.below(2);
        }
        return m;
    }

    private static void compareFaults() {
        int without = 0;
        for (int i = 0; i < 60000; i++) {
            Numbers n = new Numbers(i + 1);
            Model m = new Model();
            int blocks = n.below(4);
            for (int b = 0; b < blocks; b++) {
                m.blocks.add(anyCode(n, n.oneIn(4) ? 24 : 6));
            }
            int merges = n.below(3);
            for (int b = 0; b < merges; b++) {
                m.merges.add(n.oneIn(2) ? anyMerge(n) : anyCode(n, 8));
            }
            int fault = m.fault();
            due("program " + i + " fault", told(m).fault(), fault);
            without += fault < 0 && blocks > 0 ? 1 : 0;
        }
        due("enough programs have no fault", without > 500, true);
    }

    private static void compareRuns() {
        int[] codes = new int[5];
        int joins = 0;
        for (int i = 0; i < 6000; i++) {
            Numbers n = new Numbers(1000003L * (i + 1));
            Model m = piecedModel(n, n.oneIn(2));
            VersionForks x = told(m);
            due("program " + i + " fault", x.fault(), m.fault());
            if (!m.canStart()) {
                continue;
            }
            x.start();
            m.start();
            for (int call = 0; call < 25; call++) {
                if (n.oneIn(15)) {
                    int seed = n.below(1000) - 300;
                    due("program " + i + " run", x.run(seed), m.run(seed));
                } else {
                    int task = n.below(m.actors.size());
                    int most = n.oneIn(10) ? 200 : 1 + n.below(12);
                    due("program " + i + " step", x.step(task, most), m.step(task, most));
                }
                compare("program " + i + " call " + call, x, m);
            }
            int seed = n.below(3);
            due("program " + i + " last run", x.run(seed), m.run(seed));
            compare("program " + i + " at the end", x, m);
            for (Actor t : m.actors) {
                codes[t.code]++;
                joins += t.status == 3 ? 1 : 0;
            }
        }
        for (int code = 1; code <= 4; code++) {
            due("enough tasks fail with code " + code, codes[code] > 50, true);
        }
        due("enough tasks are joined", joins > 2000, true);
    }

    private static String outcome(VersionForks x) {
        StringBuilder text = new StringBuilder();
        text.append(x.task(0, 0)).append(' ').append(x.task(0, 1)).append(" result ").append(printOf(x, 0, -1));
        for (int k = 0; k < x.task(0, 4); k++) {
            text.append(' ').append(x.print(0, k));
        }
        for (int c = 0; c < 12; c++) {
            text.append(" cell ").append(x.read(0, c));
        }
        return text.toString();
    }

    private static boolean hitLimit(VersionForks x) {
        for (int i = 0; i < x.tasks(); i++) {
            if (x.task(i, 1) >= 3) {
                return true;
            }
        }
        return false;
    }

    private static void compareOrders() {
        int compared = 0;
        for (int i = 0; i < 4000; i++) {
            Numbers n = new Numbers(77777L * (i + 1));
            Model m = piecedModel(n, false);
            VersionForks x = told(m);
            if (!m.canStart()) {
                continue;
            }
            x.start();
            x.run(0);
            String first = outcome(x);
            boolean limited = hitLimit(x);
            for (int seed = 1; seed < 8 && !limited; seed++) {
                x.start();
                x.run(seed * 7919);
                limited = hitLimit(x);
                if (!limited) {
                    due("program " + i + " by seed " + seed * 7919, outcome(x), first);
                    compared++;
                }
            }
        }
        due("enough orders were compared", compared > 2000, true);
    }

    public static void main(String[] args) {
        compareFaults();
        compareRuns();
        compareOrders();
        System.out.println(wrong == 0 ? "the class does as the model" : wrong + " answers are not as due");
        if (wrong != 0) {
            System.exit(1);
        }
    }
}
