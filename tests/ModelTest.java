import java.util.ArrayList;
import java.util.List;
import java.util.Random;

/** The class against the Model, over many made-up programs, right ones and wrong ones, with a fixed seed each. */
public final class ModelTest {
    private static final int PUSH = 0, LOAD = 1, STORE = 2, ADD = 3, LESS = 7, JUMP = 9, WHEN = 10, CALL = 11;
    private static final int RET = 12, FIELD = 13, KEEP = 14, NEW = 15, GET = 16, SET = 17, DUP = 18, POP = 19;
    private static final int[] VALUES =
            {0, 0, 1, 1, 2, 3, -1, 5, 20, 21, 7, 100, Integer.MAX_VALUE, Integer.MIN_VALUE};
    private static int differing = 0;

    private Random random;
    private TemplateForge forge;
    private Model model;
    private int calls;
    private final List<Integer> argsOf = new ArrayList<>();
    private final List<String> told = new ArrayList<>();
    private List<int[]> out;
    private int locals;

    public static void main(String[] args) {
        int[] met = new int[9];
        for (int seed = 0; seed < 6000 && differing < 5; seed++) {
            ModelTest t = new ModelTest();
            t.random = new Random(seed);
            t.forge = new TemplateForge();
            t.model = new Model();
            t.one(seed, met);
        }
        String[] names = {"returned", "trapped", "spent", "made", "failed", "failed in old CODE", "failed behind a CALL",
            "failed in old CODE while there is new", "DEEP"};
        for (int k = 0; k < met.length; k++) {
            System.out.println(names[k] + ": " + met[k]);
            Due.due("met at least 20 times: " + names[k], Math.min(met[k], 20), 20);
        }
        Due.due("made-up programs that differ", differing, 0);
        Due.end();
    }

    private void one(int seed, int[] met) {
        boolean isWild = seed % 8 == 0;
        int count = 1 + random.nextInt(4);
        boolean isTower = seed % 4 == 1;
        count = isTower ? Math.max(count, 2) : count;
        for (int m = 0; m < count; m++) {
            if (isTower && m < 2) {
                makeTower(m, count);
            } else {
                makeMethod(m, isWild, count);
            }
        }
        for (int m = 0; m < count; m++) {
            same("look(" + m + ")", forge.look(m), model.look(m));
            same("fault()", forge.fault(), model.fault());
            same("of(" + m + ", 7)", forge.of(m, 7), model.of(m, 7));
        }
        int[] usual = new int[3];
        for (int k = 0; calls < 480; k++) {
            if (random.nextInt(6) == 0 || k == 0) {
                for (int a = 0; a < 3; a++) {
                    usual[a] = VALUES[random.nextInt(random.nextBoolean() ? 8 : VALUES.length)];
                }
            }
            if (random.nextInt(4) == 0) {
                disturb();
            }
            int m = random.nextInt(count);
            if (random.nextInt(8) == 0) {
                usual[random.nextInt(3)] = VALUES[random.nextInt(VALUES.length)];
            }
            int got = forge.run(m, usual[0], usual[1], usual[2]);
            same("run(" + m + ", " + usual[0] + ", " + usual[1] + ", " + usual[2] + ")", got,
                    model.run(m, usual[0], usual[1], usual[2]));
            if (got >= 0) {
                met[got == 3 ? 2 : got]++;
                met[8] += model.trap(0) == 6 ? 1 : 0;
            }
            compareState(count);
            if (differing > 0 && told.isEmpty()) {
                return;
            }
        }
        for (int m = 0; m < count; m++) {
            met[3] += model.of(m, 2);
            met[4] += model.of(m, 3);
        }
        met[5] += model.failedInOld;
        met[6] += model.failedBehindCall;
        met[7] += model.failedInOldWhileCoded;
    }

    private void disturb() {
        int f = random.nextInt(3), v = VALUES[random.nextInt(6)], r = random.nextInt(4);
        if (random.nextInt(4) == 0) {
            same("lose(" + r + ")", forge.lose(r), model.lose(r));
        } else {
            same("keep(" + f + ", " + v + ")", forge.keep(f, v), model.keep(f, v));
        }
    }

    private void compareState(int count) {
        same("digest()", forge.digest(), model.digest());
        same("answer()", forge.answer(), model.answer());
        for (int what = -1; what <= 6; what++) {
            same("count(" + what + ")", forge.count(what), model.count(what));
        }
        for (int what = -1; what <= 4; what++) {
            same("trap(" + what + ")", forge.trap(what), model.trap(what));
        }
        for (int m = 0; m < count; m++) {
            for (int what = -1; what <= 8; what++) {
                same("of(" + m + ", " + what + ")", forge.of(m, what), model.of(m, what));
            }
            for (int x = -1; x <= 18; x++) {
                same("varies(" + m + ", " + x + ")", forge.varies(m, x), model.varies(m, x));
            }
            for (int i = -1; i <= forge.of(m, 6); i++) {
                same("depth(" + m + ", " + i + ")", forge.depth(m, i), model.depth(m, i));
            }
            for (int i = -1; i <= forge.of(m, 5); i++) {
                for (int what = -1; what <= 5; what++) {
                    same("part(" + m + ", " + i + ", " + what + ")", forge.part(m, i, what), model.part(m, i, what));
                }
            }
        }
        for (int f = 0; f < 8; f++) {
            same("field(" + f + ")", forge.field(f), model.field(f));
        }
        for (int r = 0; r < 4; r++) {
            same("size(" + r + ")", forge.size(r), model.size(r));
            for (int i = -1; i <= 20; i++) {
                same("item(" + r + ", " + i + ")", forge.item(r, i), model.item(r, i));
            }
        }
    }

    /** Calls that only ask are not counted toward the 512: what was asked can't change what comes of the others. */
    private void same(String call, long got, long want) {
        boolean asksOnly = call.startsWith("part") || call.startsWith("item") || call.startsWith("depth")
                || call.startsWith("varies") || call.startsWith("of") || call.startsWith("field")
                || call.startsWith("size") || call.startsWith("count") || call.startsWith("trap");
        if (!asksOnly) {
            calls++;
            told.add(call + " = " + got);
        }
        if (got != want && !told.isEmpty()) {
            differing++;
            System.out.println("---- differs at " + call + ": " + got + ", the model says " + want + ", after");
            for (String line : told) {
                System.out.println("  " + line);
            }
            told.clear();
            calls = 1000;
        }
    }

    // ---- made-up programs

    private void makeMethod(int m, boolean isWild, int count) {
        int args = random.nextInt(4);
        locals = Math.min(6, args + random.nextInt(4));
        out = new ArrayList<>();
        same("method(" + args + ", " + locals + ")", forge.method(args, locals), model.method(args, locals));
        argsOf.add(args);
        if (isWild) {
            int length = random.nextInt(64);
            for (int k = 0; k < length; k++) {
                add(random.nextInt(20), random.nextInt(8) - 1);
            }
        } else {
            int statements = 1 + random.nextInt(4);
            if (m == 0 && random.nextBoolean()) {
                add(PUSH, 6);
                add(NEW, 0);
                add(PUSH, 20);
                add(NEW, 1);
            }
            for (int k = 0; k < statements && out.size() < 42; k++) {
                statement(2, 0, count);
            }
            expression(2, 0, count);
            add(RET, 0);
            if (random.nextInt(6) == 0) {
                int k = random.nextInt(out.size());
                out.get(k)[random.nextInt(2)] = random.nextInt(20);
            }
        }
        for (int[] i : out) {
            same("write(" + m + ", " + i[0] + ", " + i[1] + ")", forge.write(m, i[0], i[1]),
                    model.write(m, i[0], i[1]));
        }
    }

    /**
     * METHOD 0 keeps FIELDS, METHOD 1 calls itself, and at last METHOD 0: so what CODE assumed of FIELDS changes while
     * calls of that CODE, and of older CODE, are open.
     */
    private void makeTower(int m, int count) {
        int args = m + 1;
        locals = args + random.nextInt(3);
        out = new ArrayList<>();
        same("method(" + args + ", " + locals + ")", forge.method(args, locals), model.method(args, locals));
        argsOf.add(args);
        if (m == 0) {
            add(LOAD, 0);
            add(KEEP, random.nextInt(3));
            if (random.nextBoolean()) {
                expression(1, 0, 0);
                add(KEEP, random.nextInt(3));
            }
            add(LOAD, 0);
        } else {
            add(LOAD, 0);
            int when = add(WHEN, 0);
            int times = 1 + random.nextInt(5);
            for (int k = 0; k < times; k++) {
                add(FIELD, random.nextInt(3));
                add(LOAD, 0);
                add(PUSH, -1);
                add(ADD, 0);
                add(LOAD, 1);
                if (random.nextInt(3) == 0) {
                    add(PUSH, random.nextInt(2));
                    add(ADD, 0);
                }
                add(CALL, 1);
                add(ADD + random.nextInt(3), 0);
                add(POP, 0);
            }
            add(FIELD, random.nextInt(3));
            add(RET, 0);
            out.get(when)[1] = out.size();
            add(LOAD, 1);
            add(CALL, 0);
            add(FIELD, random.nextInt(3));
            add(ADD, 0);
        }
        add(RET, 0);
        for (int[] i : out) {
            same("write(" + m + ", " + i[0] + ", " + i[1] + ")", forge.write(m, i[0], i[1]),
                    model.write(m, i[0], i[1]));
        }
    }

    private int add(int op, int x) {
        out.add(new int[] {op, x});
        return out.size() - 1;
    }

    private void statement(int level, int pile, int count) {
        int kind = random.nextInt(10);
        if (kind < 3 && locals > 0) {
            expression(level, pile, count);
            add(STORE, random.nextInt(locals));
        } else if (kind == 3) {
            expression(level, pile, count);
            add(KEEP, random.nextInt(5));
        } else if (kind == 4) {
            expression(level, pile, count);
            add(POP, 0);
        } else if (kind == 5) {
            add(PUSH, random.nextInt(random.nextInt(4) == 0 ? 24 : 6) - random.nextInt(2));
            add(NEW, random.nextInt(2));
        } else if (kind == 6 && pile < 6) {
            index(level, pile, count);
            expression(level - 1, pile + 1, count);
            add(SET, random.nextInt(2));
        } else if (kind == 7 && level > 0) {
            expression(level, pile, count);
            int when = add(WHEN, 0);
            statement(level - 1, pile, count);
            int jump = add(JUMP, 0);
            out.get(when)[1] = out.size();
            statement(level - 1, pile, count);
            out.get(jump)[1] = out.size();
            if (random.nextInt(3) == 0) {
                add(JUMP, out.size() + 2);
                add(random.nextInt(20), 0);
            }
        } else if (kind == 8 && level > 0 && locals > 0) {
            loop(level, pile, count);
        } else if (level > 0) {
            // somewhere ahead that has an empty pile, to go on for ever, or till something changes
            expression(level - 1, pile, count);
            add(WHEN, pile == 0 && random.nextInt(3) == 0 ? 0 : out.size() + 1);
        }
    }

    private void loop(int level, int pile, int count) {
        int counter = random.nextInt(locals);
        add(PUSH, random.nextInt(5));
        add(STORE, counter);
        int head = add(LOAD, counter);
        int when = add(WHEN, 0);
        statement(level - 1, pile, count);
        add(LOAD, counter);
        add(PUSH, -1);
        add(ADD, 0);
        add(STORE, counter);
        add(JUMP, head);
        out.get(when)[1] = out.size();
    }

    private void index(int level, int pile, int count) {
        if (random.nextInt(3) == 0) {
            expression(level - 1, pile, count);
        } else {
            add(PUSH, random.nextInt(6));
        }
    }

    private void expression(int level, int pile, int count) {
        int kind = random.nextInt(level > 0 && pile < 7 ? count == 0 ? 10 : 12 : 4);
        if (kind == 0 || pile >= 8) {
            add(PUSH, VALUES[random.nextInt(VALUES.length)]);
        } else if (kind == 1) {
            add(FIELD, random.nextInt(5));
        } else if (kind < 4) {
            add(locals > 0 ? LOAD : PUSH, locals > 0 ? random.nextInt(locals) : 3);
        } else if (kind < 8) {
            expression(level - 1, pile, count);
            if (random.nextInt(5) == 0) {
                add(DUP, 0);
            } else {
                expression(level - 1, pile + 1, count);
            }
            add(ADD + random.nextInt(LESS + 2 - ADD), 0);
        } else if (kind == 8) {
            index(level, pile, count);
            add(GET, random.nextInt(2));
        } else if (kind == 9) {
            expression(level - 1, pile, count);
            int when = add(WHEN, 0);
            expression(level - 1, pile, count);
            int jump = add(JUMP, 0);
            out.get(when)[1] = out.size();
            expression(level - 1, pile, count);
            out.get(jump)[1] = out.size();
        } else {
            // of METHODS not made up yet, how many ARGS is a guess: a wrong one is a FAULT, mostly
            int made = argsOf.size() - 1;
            boolean isAny = random.nextInt(made == 0 ? 4 : 8) == 0;
            int callee = random.nextInt(isAny ? count : Math.max(made, 1));
            int args = callee < argsOf.size() ? argsOf.get(callee) : random.nextInt(3);
            for (int k = 0; k < args; k++) {
                expression(level - 2, pile + k, count);
            }
            add(CALL, callee);
        }
    }
}
