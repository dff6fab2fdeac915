/** Promises 1 to 5 and 17: new objects, method, write, look, fault, depth. */
public final class ProgramsTest {
    private static final int PUSH = 0, LOAD = 1, STORE = 2, ADD = 3, SUB = 4, MUL = 5, DIV = 6, LESS = 7, SAME = 8;
    private static final int JUMP = 9, WHEN = 10, CALL = 11, RET = 12, FIELD = 13, KEEP = 14, NEW = 15, GET = 16;
    private static final int SET = 17, DUP = 18, POP = 19;
    private static final int LEAST = Integer.MIN_VALUE;

    public static void main(String[] args) {
        newObject();
        methods();
        writing();
        lookRefusals();
        takesAndLays();
        wrongXs();
        tooMuch();
        jumpFaults();
        faultOrder();
        leastFirst();
        lookAgain();
        depths();
        Due.end();
    }

    private static void newObject() {
        TemplateForge f = new TemplateForge();
        for (int k = 0; k < 8; k++) {
            Due.due("new field(" + k + ")", f.field(k), 0);
        }
        for (int r = 0; r < 4; r++) {
            Due.due("new size(" + r + ")", f.size(r), -1);
            Due.due("new item(" + r + ", 0)", f.item(r, 0), 0);
        }
        for (int what = 0; what <= 5; what++) {
            Due.due("new count(" + what + ")", f.count(what), 0);
        }
        for (int what = 0; what <= 3; what++) {
            Due.due("new trap(" + what + ")", f.trap(what), 0);
        }
        Due.due("new fault()", f.fault(), 0);
        Due.due("new answer()", f.answer(), 0);
        Due.due("new of(0, 0)", f.of(0, 0), -2);
        Due.due("new part(0, 0, 0)", f.part(0, 0, 0), LEAST);
        Due.due("new varies(0, 0)", f.varies(0, 0), -2);
        Due.due("new depth(0, 0)", f.depth(0, 0), -2);
        Due.due("new look(0)", f.look(0), -2);
        Due.due("new run(0)", f.run(0, 0, 0, 0), -2);
        long h = 17;
        int[] due = {0, 0, 0, 0, 0, 0, 0, 0, -1, -1, -1, -1, 0, 0, 0, 0, 0};
        for (int v : due) {
            h = 31 * h + v;
        }
        Due.due("new digest()", f.digest(), h);
    }

    private static void methods() {
        TemplateForge f = new TemplateForge();
        int[][] bad = {{-1, 0}, {-1, -1}, {4, 4}, {4, 6}, {0, -1}, {1, 0}, {3, 2}, {0, 7}, {3, 7}, {LEAST, LEAST},
            {Integer.MAX_VALUE, Integer.MAX_VALUE}, {2, LEAST}};
        for (int[] b : bad) {
            Due.due("method(" + b[0] + ", " + b[1] + ")", f.method(b[0], b[1]), -2);
        }
        Due.due("count(0) of bad ones", f.count(0), 0);
        int[][] good = {{0, 0}, {3, 3}, {3, 6}, {0, 6}, {1, 1}, {2, 3}, {2, 2}, {0, 1}};
        for (int m = 0; m < 8; m++) {
            Due.due("method " + m, f.method(good[m][0], good[m][1]), m);
            Due.due("count(0)", f.count(0), m + 1);
        }
        Due.due("method a ninth", f.method(0, 0), -4);
        Due.due("method bad ahead of full", f.method(0, 7), -2);
        Due.due("count(0) when full", f.count(0), 8);
    }

    private static void writing() {
        TemplateForge f = new TemplateForge();
        Due.due("write without methods", f.write(0, 0, 0), -2);
        f.method(0, 0);
        Due.due("write(-1)", f.write(-1, 0, 0), -2);
        Due.due("write(1)", f.write(1, 0, 0), -2);
        Due.due("write op -1", f.write(0, -1, 0), -2);
        Due.due("write op 20", f.write(0, 20, 0), -2);
        Due.due("of(0, 6) after bad ones", f.of(0, 6), 0);
        for (int op = 0; op < 20; op++) {
            Due.due("write op " + op, f.write(0, op, op * 1000000000), op);
        }
        for (int i = 20; i < 60; i++) {
            Due.due("write", f.write(0, PUSH, 0), i);
        }
        Due.due("write the 61st", f.write(0, PUSH, 0), -4);
        Due.due("write bad ahead of full", f.write(0, 20, 0), -2);
        Due.due("of(0, 6)", f.of(0, 6), 60);
        f.method(0, 0);
        Due.write(f, 1, PUSH, 1, RET, 0);
        Due.due("look(1)", f.look(1), 1);
        Due.due("write to one looked over", f.write(1, PUSH, 0), -3);
        Due.due("write bad ahead of state", f.write(1, -1, 0), -2);
        Due.due("of(1, 6)", f.of(1, 6), 2);
        fullAndLookedOver();
    }

    private static void fullAndLookedOver() {
        TemplateForge f = new TemplateForge();
        f.method(0, 0);
        for (int i = 0; i < 29; i++) {
            Due.write(f, 0, PUSH, i, POP, 0);
        }
        Due.write(f, 0, PUSH, 5, RET, 0);
        Due.due("look of sixty", f.look(0), 1);
        Due.due("write state ahead of full", f.write(0, PUSH, 0), -3);
        Due.due("run of sixty", f.run(0, 0, 0, 0), 0);
        Due.due("answer of sixty", f.answer(), 5);
    }

    private static void lookRefusals() {
        TemplateForge f = new TemplateForge();
        Due.due("look(-1)", f.look(-1), -2);
        f.method(0, 0);
        Due.due("look(1)", f.look(1), -2);
        Due.due("look of none", f.look(0), -100);
        Due.due("fault of none", f.fault(), 5);
        Due.due("look(8)", f.look(8), -2);
        Due.due("fault stays after BAD", f.fault(), 5);
        Due.write(f, 0, PUSH, 1, RET, 0);
        Due.due("look(0)", f.look(0), 1);
        Due.due("fault()", f.fault(), 0);
        f.method(0, 0);
        Due.due("look(1)", f.look(1), -100);
        Due.due("fault()", f.fault(), 5);
        Due.due("look again", f.look(0), -3);
        Due.due("fault stays after STATE", f.fault(), 5);
    }

    /** A METHOD 1 with that many places filled, then the op: what look() tells of it. */
    private static int lookAt(TemplateForge f, int filled, int op, int x) {
        int m = f.method(0, 1);
        for (int k = 0; k < filled; k++) {
            f.write(m, PUSH, 7);
        }
        f.write(m, op, x);
        f.write(m, PUSH, 0);
        f.write(m, RET, 0);
        return f.look(m);
    }

    private static void takesAndLays() {
        int[] takes = {0, 0, 1, 2, 2, 2, 2, 2, 2, 0, 1, 2, 1, 0, 1, 1, 1, 2, 1, 1};
        int[] lays = {1, 1, 0, 1, 1, 1, 1, 1, 1, 0, 0, 1, 0, 1, 0, 0, 1, 0, 2, 0};
        for (int op = 0; op < 20; op++) {
            for (int filled = 0; filled <= 3; filled++) {
                TemplateForge f = new TemplateForge();
                Due.method(f, 2, 2, PUSH, 0, RET, 0);
                int x = op == JUMP || op == WHEN ? filled + 1 : 0;
                boolean isFault = filled < takes[op];
                int after = filled - takes[op] + lays[op];
                int want = op == RET ? filled : Math.max(filled, after + 1);
                Due.due("look at op " + op + " with " + filled, lookAt(f, filled, op, x),
                        isFault ? -100 - filled : want);
                Due.due("fault of op " + op + " with " + filled, f.fault(), isFault ? 1 : 0);
                Due.due("depth behind op " + op, f.depth(1, filled + 1), isFault || op == RET ? -1 : after);
                Due.due("of(1, 7) of op " + op, f.of(1, 7), isFault ? -1 : want);
            }
        }
        for (int args = 0; args <= 3; args++) {
            for (int filled = 0; filled <= 3; filled++) {
                TemplateForge f = new TemplateForge();
                Due.method(f, args, args, PUSH, 0, RET, 0);
                int look = lookAt(f, filled, CALL, 0);
                Due.due("look at CALL of " + args + " with " + filled, look,
                        filled < args ? -100 - filled : Math.max(filled, filled - args + 2));
                Due.due("fault", f.fault(), filled < args ? 1 : 0);
            }
        }
    }

    private static void wrongXs() {
        int[][] opsAndFirstWrong =
                {{LOAD, 2}, {STORE, 2}, {CALL, 2}, {FIELD, 8}, {KEEP, 8}, {NEW, 4}, {GET, 4}, {SET, 4}};
        for (int[] o : opsAndFirstWrong) {
            for (int x : new int[] {-1, o[1], o[1] - 1, LEAST, Integer.MAX_VALUE}) {
                TemplateForge f = new TemplateForge();
                Due.method(f, 1, 1, LOAD, 0, RET, 0);
                f.method(2, 2);
                Due.write(f, 1, PUSH, 0, PUSH, 0, o[0], x, PUSH, 0, RET, 0);
                boolean isWrong = x != o[1] - 1;
                int look = f.look(1);
                Due.due("look at op " + o[0] + " with x " + x, isWrong ? look : Math.min(look, 0), isWrong ? -102 : 0);
                Due.due("fault", f.fault(), isWrong ? 6 : 0);
            }
        }
        for (int op : new int[] {PUSH, ADD, SUB, MUL, DIV, LESS, SAME, DUP, POP}) {
            TemplateForge f = new TemplateForge();
            f.method(0, 0);
            Due.write(f, 0, PUSH, -9, PUSH, LEAST, op, -77, PUSH, 1, RET, -5);
            f.look(0);
            Due.due("fault of an x that op " + op + " has not", f.fault(), 0);
        }
    }

    private static void tooMuch() {
        for (int op : new int[] {PUSH, LOAD, FIELD, DUP, CALL}) {
            for (int filled = 6; filled <= 8; filled++) {
                TemplateForge f = new TemplateForge();
                Due.method(f, 0, 0, PUSH, 0, RET, 0);
                int m = f.method(0, 1);
                for (int k = 0; k < filled; k++) {
                    f.write(m, PUSH, 0);
                }
                Due.write(f, m, op, 0, RET, 0);
                Due.due("look at op " + op + " with " + filled, f.look(m), filled == 8 ? -108 : filled + 1);
                Due.due("fault", f.fault(), filled == 8 ? 2 : 0);
            }
        }
        TemplateForge f = new TemplateForge();
        f.method(0, 0);
        for (int k = 0; k < 8; k++) {
            f.write(0, PUSH, 1);
        }
        Due.write(f, 0, GET, 0, SAME, 0, RET, 0);
        Due.due("look at eight that stay eight", f.look(0), 8);
    }

    private static int lookOf(int... opsAndXs) {
        TemplateForge f = new TemplateForge();
        f.method(0, 1);
        Due.write(f, 0, opsAndXs);
        int look = f.look(0);
        return look < 0 ? look * 10 - f.fault() : look;
    }

    private static void jumpFaults() {
        Due.due("JUMP to -1", lookOf(JUMP, -1), -1004);
        Due.due("JUMP behind the last", lookOf(JUMP, 1), -1004);
        Due.due("JUMP to itself", lookOf(JUMP, 0), 0);
        Due.due("WHEN to -1", lookOf(PUSH, 1, WHEN, -1, PUSH, 0, RET, 0), -1014);
        Due.due("WHEN behind the last", lookOf(PUSH, 1, WHEN, 4, PUSH, 0, RET, 0), -1014);
        Due.due("WHEN to itself", lookOf(PUSH, 1, WHEN, 1, PUSH, 0, RET, 0), -1013);
        Due.due("WHEN to the next one", lookOf(PUSH, 1, WHEN, 2, PUSH, 0, RET, 0), 1);
        Due.due("WHEN without a next one", lookOf(PUSH, 1, WHEN, 0), -1015);
        Due.due("the last goes on", lookOf(PUSH, 1), -1005);
        Due.due("the last POPs", lookOf(PUSH, 1, POP, 0), -1015);
        Due.due("another depth by JUMP", lookOf(PUSH, 1, JUMP, 0), -1013);
        Due.due("another depth by the next one",
                lookOf(PUSH, 1, WHEN, 4, PUSH, 1, PUSH, 2, PUSH, 3, RET, 0), -1033);
        Due.due("the same depth from two", lookOf(PUSH, 1, WHEN, 4, PUSH, 1, JUMP, 5, PUSH, 2, RET, 0), 1);
        Due.due("RET leaves what it will", lookOf(PUSH, 1, PUSH, 2, PUSH, 3, RET, 0), 3);
    }

    private static void faultOrder() {
        Due.due("6 ahead of 1", lookOf(STORE, 1), -1006);
        Due.due("6 ahead of 2", lookOf(PUSH, 0, PUSH, 0, PUSH, 0, PUSH, 0, PUSH, 0, PUSH, 0, PUSH, 0, PUSH, 0,
                LOAD, 1), -1086);
        Due.due("1 ahead of 4", lookOf(WHEN, 9), -1001);
        Due.due("4 ahead of 5", lookOf(PUSH, 1, WHEN, 9), -1014);
        Due.due("3 of X ahead of 5", lookOf(PUSH, 0, PUSH, 1, WHEN, 0), -1023);
        Due.due("3 of X ahead of 3 of the next one",
                lookOf(PUSH, 1, WHEN, 5, PUSH, 1, WHEN, 1, PUSH, 0, RET, 0), -1033);
        Due.due("2 ahead of 5", lookOf(PUSH, 0, PUSH, 0, PUSH, 0, PUSH, 0, PUSH, 0, PUSH, 0, PUSH, 0, PUSH, 0,
                PUSH, 0), -1082);
        Due.due("1 ahead of 5", lookOf(RET, 0), -1001);
    }

    /** Which fault is met first depends on the least place that waits being gone through first. */
    private static void leastFirst() {
        Due.due("the next one ahead of a far X", lookOf(PUSH, 1, WHEN, 4, POP, 0, RET, 0, POP, 0), -1021);
        Due.due("a place behind, come to late, goes ahead",
                lookOf(JUMP, 4, POP, 0, RET, 0, RET, 0, PUSH, 1, WHEN, 1, RET, 0), -1011);
        Due.due("the depth first come with stays",
                lookOf(PUSH, 1, WHEN, 3, JUMP, 5, PUSH, 2, POP, 0, PUSH, 3, RET, 0), 1);
        Due.due("told at the one it comes from", lookOf(PUSH, 1, WHEN, 3, PUSH, 1, RET, 0), -1023);
    }

    private static void lookAgain() {
        TemplateForge f = new TemplateForge();
        f.method(0, 0);
        Due.write(f, 0, PUSH, 3);
        Due.due("look without RET", f.look(0), -100);
        Due.due("fault()", f.fault(), 5);
        Due.due("of(0, 7)", f.of(0, 7), -1);
        Due.due("depth(0, 0)", f.depth(0, 0), -1);
        Due.write(f, 0, CALL, 1, ADD, 0, RET, 0);
        Due.due("look ahead of METHOD 1", f.look(0), -101);
        Due.due("fault()", f.fault(), 6);
        f.method(0, 0);
        Due.due("look with METHOD 1", f.look(0), 2);
        Due.due("fault()", f.fault(), 0);
        Due.due("run while METHOD 1 was not looked over", f.run(0, 0, 0, 0), -3);
        Due.write(f, 1, PUSH, 4, RET, 0);
        Due.due("look(1)", f.look(1), 1);
        Due.due("run", f.run(0, 0, 0, 0), 0);
        Due.due("answer", f.answer(), 7);
    }

    private static void depths() {
        TemplateForge f = new TemplateForge();
        f.method(1, 2);
        Due.write(f, 0, LOAD, 0, PUSH, 2, LESS, 0, WHEN, 6, PUSH, 1, RET, 0, PUSH, 5, DUP, 0, MUL, 0, RET, 0, PUSH, 9,
                JUMP, 10);
        Due.due("look(0)", f.look(0), 2);
        int[] want = {0, 1, 2, 1, 0, 1, 0, 1, 2, 1, -1, -1};
        for (int i = 0; i < want.length; i++) {
            Due.due("depth(0, " + i + ")", f.depth(0, i), want[i]);
        }
        Due.due("depth(0, 12)", f.depth(0, 12), -2);
        Due.due("depth(0, -1)", f.depth(0, -1), -2);
        Due.due("depth(1, 0)", f.depth(1, 0), -2);
        Due.due("depth(-1, 0)", f.depth(-1, 0), -2);
        Due.due("of(0, 7)", f.of(0, 7), 2);
        f.method(0, 0);
        Due.due("depth of a place that is not there", f.depth(1, 0), -2);
        Due.write(f, 1, PUSH, 0);
        Due.due("depth ahead of look", f.depth(1, 0), -1);
    }
}
