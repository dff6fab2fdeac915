import java.util.ArrayList;
import java.util.Arrays;
import java.util.List;
import java.util.Random;

/**
 * METHODS whose JUMPS and WHENS go anywhere that has the depth they leave, with a PILE that is not empty, into the
 * midst of what is KNOWN, over DEAD ones. The class is set against the Model, and against a Model that never puts
 * anything into CODE: of that one everything must be the same but what tells which way was gone.
 */
public final class TangleTest implements Ops {
    private static final int[] VALUES = {0, 0, 1, 1, 2, 3, -1, 4, 19, 20, 21, MOST, LEAST};
    private static final int OBJECTS = 1500, RUNS = 60, TRIES = 200;
    private static final int SPENT = 3;

    private final Random random;
    private final int seed;
    private final TemplateForge forge = new TemplateForge();
    private final Model model = new Model();
    private final Model plain = new Model();
    private final List<Integer> argsOf = new ArrayList<>();
    private int locals;
    /** The depth that an INSTRUCTION has, or must have, once it is come to; NONE as long as none is told. */
    private int[] depths;

    private TangleTest(int seed) {
        this.seed = seed;
        random = new Random(seed);
    }

    public static void main(String[] args) {
        int[] met = new int[7];
        for (int seed = 0; seed < OBJECTS; seed++) {
            new TangleTest(seed).one(met);
        }
        String[] names = {"returned", "trapped", "coded and failed", "spent", "TARGETS with a PILE", "DEAD",
            "failed behind a CALL"};
        for (int k = 0; k < met.length; k++) {
            System.out.println(names[k] + ": " + met[k]);
            Due.due("met at least 20 times: " + names[k], Math.min(met[k], 20), 20);
        }
        Due.end();
    }

    private void one(int[] met) {
        plain.byInstructionsAlone = true;
        Due.about("seed " + seed);
        int count = 2 + random.nextInt(3);
        tellMaker();
        for (int m = 1; m < count; m++) {
            tell(m, met);
        }
        int[] usual = new int[3];
        for (int k = 0; k < RUNS; k++) {
            if (k == 0 || random.nextInt(9) == 0) {
                Arrays.setAll(usual, a -> any(VALUES));
            }
            if (random.nextInt(6) == 0) {
                int f = random.nextInt(3), v = any(VALUES);
                Due.due("keep", forge.keep(f, v), model.keep(f, v));
                plain.keep(f, v);
            }
            int m = k == 0 ? 0 : random.nextInt(count);
            int how = forge.run(m, usual[0], usual[1], usual[2]);
            Due.due(k + " run(" + m + ")", how, model.run(m, usual[0], usual[1], usual[2]));
            Due.due(k + " run(" + m + ") by INSTRUCTIONS", how, plain.run(m, usual[0], usual[1], usual[2]));
            compare(k);
            met[how == SPENT ? 3 : Math.max(how, 0)]++;
            met[2] += forge.count(5);
        }
        for (int m = 0; m < count; m++) {
            compareCode(m);
        }
        met[6] += model.failedBehindCall;
    }

    private void compare(int k) {
        Due.due(k + " digest()", forge.digest(), model.digest());
        Due.due(k + " answer()", forge.answer(), plain.answer());
        for (int what = 0; what <= 5; what++) {
            Due.due(k + " count(" + what + ")", forge.count(what), model.count(what));
            Due.due(k + " trap(" + what + ")", forge.trap(what), plain.trap(what));
            if (what <= 3) {
                Due.due(k + " count(" + what + ") by INSTRUCTIONS", forge.count(what), plain.count(what));
            }
        }
        for (int f = 0; f < 8; f++) {
            Due.due(k + " field(" + f + ")", forge.field(f), plain.field(f));
        }
        for (int r = 0; r < 4; r++) {
            Due.due(k + " size(" + r + ")", forge.size(r), plain.size(r));
            for (int i = 0; i < 20; i++) {
                Due.due(k + " item(" + r + ", " + i + ")", forge.item(r, i), plain.item(r, i));
            }
        }
    }

    private void compareCode(int m) {
        for (int i = 0; i < forge.of(m, 5); i++) {
            for (int what = 0; what <= 4; what++) {
                Due.due("part(" + m + ", " + i + ", " + what + ")", forge.part(m, i, what), model.part(m, i, what));
            }
        }
        for (int x = 0; x <= 17; x++) {
            Due.due("varies(" + m + ", " + x + ")", forge.varies(m, x), model.varies(m, x));
        }
    }

    private int any(int[] values) {
        return values[random.nextInt(values.length)];
    }

    // ---- made-up METHODS

    /** METHOD 0 makes ROWS anew and, now and then, changes a FIELD: so GUARDS behind a CALL fail, too. */
    private void tellMaker() {
        begin(0, 0);
        int[][] made = {{PUSH, 5}, {NEW, 0}, {PUSH, 20}, {NEW, 1}, {FIELD, 6}, {PUSH, 1}, {ADD, 0}, {DUP, 0}, {KEEP, 6},
            {PUSH, 12}, {DIV, 0}, {DUP, 0}, {KEEP, random.nextInt(3)}, {RET, 0}};
        finish(0, List.of(made));
    }

    private void begin(int args, int locals) {
        this.locals = locals;
        Due.due("method", forge.method(args, locals), model.method(args, locals));
        plain.method(args, locals);
        argsOf.add(args);
    }

    private void finish(int m, List<int[]> made) {
        for (int[] i : made) {
            Due.due("write", forge.write(m, i[0], i[1]), model.write(m, i[0], i[1]));
            plain.write(m, i[0], i[1]);
        }
        int most = forge.look(m);
        Due.due("look", most, model.look(m));
        plain.look(m);
        Due.due("is right", most >= 0 ? 1 : 0, 1);
    }

    private void tell(int m, int[] met) {
        int args = random.nextInt(4);
        begin(args, Math.min(6, args + random.nextInt(3)));
        List<int[]> made = rightOne();
        finish(m, made);
        for (int i = 0; i < made.size(); i++) {
            int op = made.get(i)[0], depth = forge.depth(m, i);
            Due.due("depth", depth, model.depth(m, i));
            met[5] += depth == NONE ? 1 : 0;
            boolean goes = depth != NONE && (op == JUMP || op == WHEN);
            met[4] += goes && forge.depth(m, made.get(i)[1]) > 0 ? 1 : 0;
        }
    }

    /** Made-up ones until one has no FAULT; a plain one, if none has. */
    private List<int[]> rightOne() {
        for (int k = 0; k < TRIES; k++) {
            List<int[]> made = madeUp(8 + random.nextInt(50));
            Model m = new Model();
            for (int a : argsOf) {
                m.method(a, argsOf.size() == m.count(0) + 1 ? locals : 6);
            }
            int number = argsOf.size() - 1;
            for (int[] i : made) {
                m.write(number, i[0], i[1]);
            }
            if (m.look(number) >= 0) {
                return made;
            }
        }
        return List.of(new int[] {FIELD, 0}, new int[] {RET, 0});
    }

    private List<int[]> madeUp(int length) {
        List<int[]> made = new ArrayList<>();
        depths = new int[length];
        Arrays.fill(depths, NONE);
        depths[0] = 0;
        for (int i = 0; i < length; i++) {
            int d = depths[i];
            int[] next = d == NONE ? new int[] {random.nextInt(20), random.nextInt(8)}
                    : i == length - 1 ? new int[] {d > 0 ? RET : JUMP, placeOf(d, i)} : oneAt(i, d, length);
            made.add(next);
            if (d != NONE && next[0] != JUMP && next[0] != RET && i + 1 < length) {
                int left = d + change(next);
                depths[i + 1] = depths[i + 1] == NONE ? left : depths[i + 1];
            }
        }
        return made;
    }

    private int change(int[] instruction) {
        switch (instruction[0]) {
            case PUSH: case LOAD: case FIELD: case DUP:
                return 1;
            case CALL:
                return 1 - argsOf.get(instruction[1]);
            case JUMP: case GET:
                return 0;
            case SET:
                return -2;
            default:
                return -1;
        }
    }

    /** An INSTRUCTION that leaves the depth that the next one must have, if that is told already. */
    private int[] oneAt(int i, int d, int length) {
        for (int k = 0; k < 60; k++) {
            int[] one = anyOne(i, d, length);
            int left = d + (one == null ? 0 : change(one));
            if (one == null || left < 0 || left > 8) {
                continue;
            }
            boolean goesOn = one[0] != JUMP && one[0] != RET;
            if (!goesOn || depths[i + 1] == NONE && isInTime(i + 1, left) || depths[i + 1] == left) {
                return one;
            }
        }
        return new int[] {JUMP, placeOf(d, i)};
    }

    /** Whether a place ahead with a depth of its own may still be come to, one PUSH or POP at a time. */
    private boolean isInTime(int i, int d) {
        for (int k = i; k < depths.length; k++) {
            if (depths[k] != NONE) {
                return Math.abs(depths[k] - d) <= k - i;
            }
        }
        return true;
    }

    private int[] anyOne(int i, int d, int length) {
        int op = random.nextInt(24);
        op = op < 20 ? op : op < 22 ? PUSH : op == 22 ? LOAD : WHEN;
        int needs = op == SET || op >= ADD && op <= SAME ? 2 : op == PUSH || op == LOAD || op == JUMP || op == FIELD
                || op == CALL ? 0 : 1;
        boolean isRare = op == RET || op == JUMP || op == NEW || op == GET || op == SET;
        if (d < needs || isRare && random.nextInt(3) > 0) {
            return null;
        }
        switch (op) {
            case PUSH:
                return new int[] {op, any(VALUES)};
            case LOAD: case STORE:
                return locals == 0 ? null : new int[] {op, random.nextInt(locals)};
            case FIELD: case KEEP:
                return new int[] {op, op == KEEP && random.nextBoolean() ? 7 : random.nextInt(3)};
            case NEW: case GET: case SET:
                return new int[] {op, random.nextInt(2)};
            case CALL: {
                int callee = random.nextInt(random.nextBoolean() ? argsOf.size() : 1);
                return d < argsOf.get(callee) ? null : new int[] {op, callee};
            }
            case JUMP: case WHEN:
                return new int[] {op, target(i, d + (op == WHEN ? -1 : 0), length)};
            default:
                return new int[] {op, random.nextInt(9) - 4};
        }
    }

    /** Mostly a place behind, now and then one ahead, to go round. */
    private int target(int i, int d, int length) {
        int to = i + 1 + random.nextInt(9);
        if (random.nextInt(5) == 0 || to >= length) {
            return placeOf(d, i);
        }
        if (depths[to] == NONE && Math.abs(placesTo(to, d)) <= to - i) {
            depths[to] = d;
        }
        return depths[to] == d ? to : placeOf(d, i);
    }

    /** How far the nearest told depth beside that place is off. */
    private int placesTo(int to, int d) {
        for (int k = to + 1; k < depths.length; k++) {
            if (depths[k] != NONE) {
                return Math.max(0, Math.abs(depths[k] - d) - (k - to));
            }
        }
        return 0;
    }

    private int placeOf(int d, int i) {
        int from = random.nextInt(depths.length);
        for (int k = 0; k < depths.length; k++) {
            int at = (from + k) % depths.length;
            if (depths[at] == d && (at != i || k == depths.length - 1)) {
                return at;
            }
        }
        return i;
    }
}
