import java.util.ArrayDeque;
import java.util.ArrayList;
import java.util.Arrays;
import java.util.Iterator;
import java.util.List;
import java.util.TreeMap;
import java.util.TreeSet;

/**
 * The document written a second time, in the plainest way and otherwise than the class: calls by INSTRUCTIONS go over
 * a real pile, calls in CODE over registers, by recursion, and a GUARD that fails moves the one to the other.
 */
final class Model {
    /** What tests may look at to know that a rare thing was met. */
    int failedInOld, failedBehindCall, failedInOldWhileCoded;
    /** Nothing is put into CODE then: what comes of it must be the same. */
    boolean byInstructionsAlone;

    private static final int LEAST = Integer.MIN_VALUE;
    private static final String NAMES =
            "PUSH LOAD STORE ADD SUB MUL DIV LESS SAME JUMP WHEN CALL RET FIELD KEEP NEW GET SET DUP POP";
    private static final List<String> OPS = List.of(NAMES.split(" "));

    private static final class End extends RuntimeException {
        private static final long serialVersionUID = 1;
        final int how;

        End(int how) {
            super(null, null, false, false);
            this.how = how;
        }
    }

    private static final class Method {
        int number, args, locals;
        final List<String> ops = new ArrayList<>();
        final List<Integer> xs = new ArrayList<>();
        TreeMap<Integer, Integer> depth;
        final List<int[]> remembered = new ArrayList<>();
        final TreeSet<Integer> varies = new TreeSet<>();
        List<int[]> code, latest;
        int made, failed, ran;

        boolean live(int i) {
            return depth.containsKey(i);
        }
    }

    private final List<Method> methods = new ArrayList<>();
    private final int[] fields = new int[8];
    private final int[][] rows = new int[4][];
    private int fault, runs, steps, calls, byCode, failed, answer, open;
    private int[] trap = new int[4];

    private Method at(int m) {
        return m < 0 || m >= methods.size() ? null : methods.get(m);
    }

    int method(int args, int locals) {
        if (!(0 <= args && args <= 3 && args <= locals && locals <= 6)) {
            return -2;
        }
        if (methods.size() == 8) {
            return -4;
        }
        Method m = new Method();
        m.number = methods.size();
        m.args = args;
        m.locals = locals;
        methods.add(m);
        return m.number;
    }

    int write(int method, int op, int x) {
        Method m = at(method);
        if (m == null || op < 0 || op > 19) {
            return -2;
        }
        if (m.depth != null) {
            return -3;
        }
        if (m.ops.size() == 60) {
            return -4;
        }
        m.ops.add(OPS.get(op));
        m.xs.add(x);
        return m.ops.size() - 1;
    }

    int look(int method) {
        Method m = at(method);
        if (m == null) {
            return -2;
        }
        if (m.depth != null) {
            return -3;
        }
        fault = 0;
        if (m.ops.isEmpty()) {
            fault = 5;
            return -100;
        }
        TreeMap<Integer, Integer> depth = new TreeMap<>();
        TreeSet<Integer> waits = new TreeSet<>();
        depth.put(0, 0);
        waits.add(0);
        while (!waits.isEmpty()) {
            int i = waits.pollFirst();
            fault = lookAt(m, i, depth, waits);
            if (fault != 0) {
                return -100 - i;
            }
        }
        m.depth = depth;
        return greatest(m);
    }

    private static int greatest(Method m) {
        int most = 0;
        for (int d : m.depth.values()) {
            most = Math.max(most, d);
        }
        return most;
    }

    private int lookAt(Method m, int i, TreeMap<Integer, Integer> depth, TreeSet<Integer> waits) {
        String op = m.ops.get(i);
        int x = m.xs.get(i);
        boolean right = switch (op) {
            case "LOAD", "STORE" -> x >= 0 && x < m.locals;
            case "CALL" -> at(x) != null;
            case "FIELD", "KEEP" -> x >= 0 && x < 8;
            case "NEW", "GET", "SET" -> x >= 0 && x < 4;
            default -> true;
        };
        if (!right) {
            return 6;
        }
        int takes = switch (op) {
            case "ADD", "SUB", "MUL", "DIV", "LESS", "SAME", "SET" -> 2;
            case "STORE", "WHEN", "RET", "KEEP", "NEW", "GET", "DUP", "POP" -> 1;
            case "CALL" -> at(x).args;
            default -> 0;
        };
        int lays = switch (op) {
            case "STORE", "JUMP", "WHEN", "RET", "KEEP", "NEW", "SET", "POP" -> 0;
            case "DUP" -> 2;
            default -> 1;
        };
        int d = depth.get(i);
        if (d < takes) {
            return 1;
        }
        d = d - takes + lays;
        if (d > 8) {
            return 2;
        }
        if (op.equals("RET")) {
            return 0;
        }
        if (op.equals("JUMP") || op.equals("WHEN")) {
            if (x < 0 || x >= m.ops.size()) {
                return 4;
            }
            if (!come(x, d, depth, waits)) {
                return 3;
            }
            if (op.equals("JUMP")) {
                return 0;
            }
        }
        if (i + 1 == m.ops.size()) {
            return 5;
        }
        return come(i + 1, d, depth, waits) ? 0 : 3;
    }

    private static boolean come(int to, int d, TreeMap<Integer, Integer> depth, TreeSet<Integer> waits) {
        if (depth.containsKey(to)) {
            return depth.get(to) == d;
        }
        depth.put(to, d);
        waits.add(to);
        return true;
    }

    int fault() {
        return fault;
    }

    int keep(int f, int v) {
        if (f < 0 || f > 7) {
            return LEAST;
        }
        int was = fields[f];
        fields[f] = v;
        return was;
    }

    int field(int f) {
        return f < 0 || f > 7 ? LEAST : fields[f];
    }

    int lose(int r) {
        int had = size(r);
        if (had != -2) {
            rows[r] = null;
        }
        return had;
    }

    int size(int r) {
        return r < 0 || r > 3 ? -2 : rows[r] == null ? -1 : rows[r].length;
    }

    int item(int r, int i) {
        return r < 0 || r > 3 || rows[r] == null || i < 0 || i >= rows[r].length ? 0 : rows[r][i];
    }

    int run(int method, int a, int b, int c) {
        if (at(method) == null) {
            return -2;
        }
        for (Method m : methods) {
            if (m.depth == null) {
                return -3;
            }
        }
        if (runs == 80) {
            return -4;
        }
        runs++;
        steps = 0;
        calls = 0;
        byCode = 0;
        failed = 0;
        answer = 0;
        open = 0;
        trap = new int[4];
        try {
            Method m = at(method);
            answer = call(m, Arrays.copyOf(new int[] {a, b, c}, m.args));
            return 0;
        } catch (End e) {
            return e.how;
        }
    }

    private void step() {
        steps++;
        if (steps == 1501) {
            throw new End(3);
        }
    }

    private void trap(int number, Method m, int i) {
        trap = new int[] {number, m.number, i, open};
        throw new End(1);
    }

    private int call(Method m, int[] args) {
        step();
        open++;
        calls++;
        if (!byInstructionsAlone && m.code == null && m.remembered.size() == 3) {
            m.code = forge(m);
            m.latest = m.code;
            m.made++;
        }
        int v;
        if (m.code != null) {
            m.ran++;
            byCode++;
            v = runCode(m, m.code, args);
        } else {
            int[] all = Arrays.copyOf(args, 11);
            System.arraycopy(fields, 0, all, 3, 8);
            m.remembered.add(all);
            v = runPile(m, 0, Arrays.copyOf(args, 7), new ArrayDeque<>());
        }
        open--;
        return v;
    }

    private int callAt(Method m, int i, int callee, int[] args) {
        if (open == 16) {
            trap(6, m, i);
        }
        return call(at(callee), args);
    }

    private int runPile(Method m, int from, int[] locals, ArrayDeque<Integer> pile) {
        int i = from;
        while (true) {
            int x = m.xs.get(i), next = i + 1, a, b;
            if (pile.size() != m.depth.get(i)) {
                throw new IllegalStateException("the pile has " + pile.size() + " at " + i);
            }
            switch (m.ops.get(i)) {
                case "PUSH" -> pile.push(x);
                case "LOAD" -> pile.push(locals[x]);
                case "STORE" -> locals[x] = pile.pop();
                case "JUMP" -> next = x;
                case "WHEN" -> next = pile.pop() == 0 ? x : next;
                case "RET" -> {
                    return pile.pop();
                }
                case "FIELD" -> pile.push(fields[x]);
                case "KEEP" -> fields[x] = pile.pop();
                case "NEW" -> makeRow(m, i, x, pile.pop());
                case "GET" -> pile.push(rows[x][index(m, i, x, pile.pop())]);
                case "SET" -> {
                    b = pile.pop();
                    rows[x][index(m, i, x, pile.pop())] = b;
                }
                case "DUP" -> pile.push(pile.peek());
                case "POP" -> pile.pop();
                case "CALL" -> {
                    int[] args = new int[at(x).args];
                    for (int k = args.length - 1; k >= 0; k--) {
                        args[k] = pile.pop();
                    }
                    pile.push(callAt(m, i, x, args));
                }
                default -> {
                    b = pile.pop();
                    a = pile.pop();
                    pile.push(sum(m, i, m.ops.get(i), a, b));
                }
            }
            if (next <= i) {
                step();
            }
            i = next;
        }
    }

    private void makeRow(Method m, int i, int r, int n) {
        if (n < 0) {
            trap(4, m, i);
        }
        if (n > 20) {
            trap(5, m, i);
        }
        rows[r] = new int[n];
    }

    private int index(Method m, int i, int r, int at) {
        if (rows[r] == null) {
            trap(2, m, i);
        }
        if (at < 0 || at >= rows[r].length) {
            trap(3, m, i);
        }
        return at;
    }

    private int sum(Method m, int i, String op, int a, int b) {
        if (op.equals("DIV") && b == 0) {
            trap(1, m, i);
        }
        return switch (op) {
            case "ADD" -> a + b;
            case "SUB" -> a - b;
            case "MUL" -> a * b;
            case "DIV" -> (int) ((long) a / b);
            case "LESS" -> a < b ? 1 : 0;
            case "SAME" -> a == b ? 1 : 0;
            default -> throw new IllegalStateException(op);
        };
    }

    /** The first PART of an INSTRUCTION or of one behind it; it may be a GUARD of the head, which holds then. */
    private static int find(List<int[]> code, int instruction) {
        int k = 0;
        while (code.get(k)[4] < instruction) {
            k++;
        }
        return k;
    }

    private int runCode(Method m, List<int[]> code, int[] args) {
        int[] reg = Arrays.copyOf(args, 15);
        int k = 0;
        boolean called = false;
        while (true) {
            int[] p = code.get(k);
            int op = p[0], d = p[1], a = p[2], b = p[3], i = p[4];
            k++;
            if (op == 0) {
                reg[d] = a;
            } else if (op == 1) {
                reg[d] = reg[a];
            } else if (op <= 7) {
                reg[d] = sum(m, i, OPS.get(op + 1), reg[a], reg[b]);
            } else if (op == 8 || op == 9) {
                if (op == 8 || reg[a] == 0) {
                    if (d <= i) {
                        step();
                    }
                    k = find(code, d);
                    called = false;
                }
            } else if (op == 10) {
                reg[d] = callAt(m, i, a, Arrays.copyOfRange(reg, d, d + at(a).args));
                called = true;
            } else if (op == 11) {
                return reg[a];
            } else if (op == 12) {
                reg[d] = fields[a];
            } else if (op == 13) {
                fields[d] = reg[a];
            } else if (op == 14) {
                makeRow(m, i, d, reg[a]);
            } else if (op == 15) {
                reg[d] = rows[a][index(m, i, a, reg[b])];
            } else if (op == 16) {
                int at = index(m, i, d, reg[a]);
                rows[d][at] = reg[b];
            } else if ((op == 17 ? reg[d] : fields[d]) != a) {
                noteFailed(m, code, op == 17 ? d : 10 + d, called);
                int from = called ? i + 1 : 0;
                ArrayDeque<Integer> pile = new ArrayDeque<>();
                for (int place = 0; place < m.depth.get(from); place++) {
                    pile.push(reg[7 + place]);
                }
                return runPile(m, from, Arrays.copyOf(reg, 7), pile);
            }
        }
    }

    private void noteFailed(Method m, List<int[]> code, int thing, boolean called) {
        failed++;
        m.failed++;
        m.varies.add(thing);
        failedBehindCall += called ? 1 : 0;
        if (m.code == code) {
            m.code = null;
            m.remembered.clear();
        } else {
            failedInOld++;
            failedInOldWhileCoded += m.code != null ? 1 : 0;
        }
    }

    private boolean someLive(Method m, String op, int x) {
        for (int i : m.depth.keySet()) {
            if (m.ops.get(i).equals(op) && m.xs.get(i) == x) {
                return true;
            }
        }
        return false;
    }

    private boolean always(Method m, int k) {
        for (int[] all : m.remembered) {
            if (all[k] != m.remembered.get(0)[k]) {
                return false;
            }
        }
        return true;
    }

    private List<int[]> forge(Method m) {
        List<int[]> code = new ArrayList<>();
        TreeMap<Integer, Integer> args = new TreeMap<>(), fixed = new TreeMap<>();
        for (int k = 0; k < m.args; k++) {
            if (someLive(m, "LOAD", k) && !someLive(m, "STORE", k) && !m.varies.contains(k) && always(m, k)) {
                args.put(k, m.remembered.get(0)[k]);
            }
        }
        for (int k = 0; k < 8; k++) {
            if (someLive(m, "FIELD", k) && !someLive(m, "KEEP", k) && !m.varies.contains(10 + k) && always(m, 3 + k)) {
                fixed.put(k, m.remembered.get(0)[3 + k]);
            }
        }
        args.forEach((k, v) -> code.add(new int[] {17, k, v, 0, 0}));
        fixed.forEach((k, v) -> code.add(new int[] {18, k, v, 0, 0}));
        TreeSet<Integer> targets = new TreeSet<>();
        for (int i : m.depth.keySet()) {
            if (m.ops.get(i).equals("JUMP") || m.ops.get(i).equals("WHEN")) {
                targets.add(m.xs.get(i));
            }
        }
        TreeMap<Integer, Integer> known = new TreeMap<>(args);
        for (int i : m.depth.keySet()) {
            if (targets.contains(i)) {
                if (m.live(i - 1) && !m.ops.get(i - 1).equals("JUMP") && !m.ops.get(i - 1).equals("RET")) {
                    layAll(code, known, 15, i - 1);
                }
                known = new TreeMap<>(args);
            }
            forgeOne(m, i, code, known, fixed);
        }
        return code;
    }

    private static void lay(List<int[]> code, TreeMap<Integer, Integer> known, int r, int i) {
        Integer v = known.remove(r);
        if (v != null) {
            code.add(new int[] {0, r, v, 0, i});
        }
    }

    private static void layAll(List<int[]> code, TreeMap<Integer, Integer> known, int below, int i) {
        for (int r = 7; r < below; r++) {
            lay(code, known, r, i);
        }
    }

    private void forgeOne(Method m, int i, List<int[]> code, TreeMap<Integer, Integer> known,
            TreeMap<Integer, Integer> fixed) {
        String op = m.ops.get(i);
        int x = m.xs.get(i), s0 = 7 + m.depth.get(i), s1 = s0 - 1, s2 = s0 - 2;
        if (op.equals("PUSH")) {
            known.put(s0, x);
        } else if (op.equals("LOAD") || op.equals("DUP")) {
            int from = op.equals("LOAD") ? x : s1;
            if (known.containsKey(from)) {
                known.put(s0, known.get(from));
            } else {
                code.add(new int[] {1, s0, from, 0, i});
            }
        } else if (op.equals("STORE")) {
            Integer v = known.remove(s1);
            known.remove(x);
            if (v != null) {
                code.add(new int[] {0, x, v, 0, i});
                known.put(x, v);
            } else {
                code.add(new int[] {1, x, s1, 0, i});
            }
        } else if (op.equals("JUMP")) {
            layAll(code, known, s0, i);
            code.add(new int[] {8, x, 0, 0, i});
        } else if (op.equals("WHEN")) {
            Integer c = known.remove(s1);
            if (c == null) {
                layAll(code, known, s0, i);
                code.add(new int[] {9, x, s1, 0, i});
            } else if (c == 0) {
                layAll(code, known, s0, i);
                code.add(new int[] {8, x, 0, 0, i});
            }
        } else if (op.equals("CALL")) {
            layAll(code, known, s0, i);
            code.add(new int[] {10, s0 - at(x).args, x, 0, i});
            fixed.forEach((k, v) -> code.add(new int[] {18, k, v, 0, i}));
        } else if (op.equals("RET")) {
            lay(code, known, s1, i);
            code.add(new int[] {11, 0, s1, 0, i});
            for (int r = 7; r < 15; r++) {
                known.remove(r);
            }
        } else if (op.equals("FIELD")) {
            if (fixed.containsKey(x)) {
                known.put(s0, fixed.get(x));
            } else {
                code.add(new int[] {12, s0, x, 0, i});
            }
        } else if (op.equals("KEEP")) {
            lay(code, known, s1, i);
            code.add(new int[] {13, x, s1, 0, i});
        } else if (op.equals("NEW")) {
            lay(code, known, s1, i);
            code.add(new int[] {14, x, s1, 0, i});
        } else if (op.equals("GET")) {
            lay(code, known, s1, i);
            code.add(new int[] {15, s1, x, s1, i});
        } else if (op.equals("SET")) {
            lay(code, known, s2, i);
            lay(code, known, s1, i);
            code.add(new int[] {16, x, s2, s1, i});
        } else if (op.equals("POP")) {
            known.remove(s1);
        } else {
            Integer a = known.get(s2), b = known.get(s1);
            if (a != null && b != null && !(op.equals("DIV") && b == 0)) {
                known.remove(s1);
                known.put(s2, sum(m, i, op, a, b));
            } else {
                lay(code, known, s2, i);
                lay(code, known, s1, i);
                code.add(new int[] {OPS.indexOf(op) - 1, s2, s2, s1, i});
            }
        }
    }

    int answer() {
        return answer;
    }

    int trap(int what) {
        return what < 0 || what > 3 ? -2 : trap[what];
    }

    int of(int method, int what) {
        Method m = at(method);
        if (m == null) {
            return -2;
        }
        return switch (what) {
            case 0 -> m.code != null ? 1 : 0;
            case 1 -> m.remembered.size();
            case 2 -> m.made;
            case 3 -> m.failed;
            case 4 -> m.ran;
            case 5 -> m.latest == null ? 0 : m.latest.size();
            case 6 -> m.ops.size();
            case 7 -> m.depth == null ? -1 : greatest(m);
            default -> -2;
        };
    }

    int part(int method, int i, int what) {
        Method m = at(method);
        if (m == null || m.latest == null || i < 0 || i >= m.latest.size() || what < 0 || what > 4) {
            return LEAST;
        }
        return m.latest.get(i)[what];
    }

    int varies(int method, int x) {
        Method m = at(method);
        if (m == null || x < 0 || x > 2 && x < 10 || x > 17) {
            return -2;
        }
        return m.varies.contains(x) ? 1 : 0;
    }

    int depth(int method, int i) {
        Method m = at(method);
        if (m == null || i < 0 || i >= m.ops.size()) {
            return -2;
        }
        return m.depth == null || !m.live(i) ? -1 : m.depth.get(i);
    }

    int count(int what) {
        int[] all = {methods.size(), runs, steps, calls, byCode, failed};
        return what < 0 || what >= all.length ? -2 : all[what];
    }

    long digest() {
        List<Integer> all = new ArrayList<>();
        for (int v : fields) {
            all.add(v);
        }
        for (int[] row : rows) {
            all.add(row == null ? -1 : row.length);
            for (int k = 0; row != null && k < row.length; k++) {
                all.add(row[k]);
            }
        }
        all.add(answer);
        for (int v : trap) {
            all.add(v);
        }
        for (Method m : methods) {
            for (int what = 0; what <= 5; what++) {
                all.add(of(m.number, what));
            }
            for (int k = 0; m.latest != null && k < m.latest.size(); k++) {
                for (int v : m.latest.get(k)) {
                    all.add(v);
                }
            }
        }
        long h = 17;
        for (Iterator<Integer> it = all.iterator(); it.hasNext();) {
            h = 31 * h + it.next();
        }
        return h;
    }
}
