/** Promises 14 to 16, 18 and 19: of, part, varies, count of CODE and GUARDS, digest; and what CODE is made of. */
public final class CodeTest {
    private static final int PUSH = 0, LOAD = 1, STORE = 2, ADD = 3, SUB = 4, MUL = 5, DIV = 6, LESS = 7, SAME = 8;
    private static final int JUMP = 9, WHEN = 10, CALL = 11, RET = 12, FIELD = 13, KEEP = 14, NEW = 15, GET = 16;
    private static final int SET = 17, DUP = 18, POP = 19;
    private static final int LI = 0, MOVE = 1, P_ADD = 2, P_DIV = 5, JMP = 8, JZ = 9, P_CALL = 10, P_RET = 11;
    private static final int FLD = 12, STF = 13, P_NEW = 14, P_GET = 15, P_SET = 16, GARG = 17, GFLD = 18;
    private static final int LEAST = Integer.MIN_VALUE, MOST = Integer.MAX_VALUE;

    public static void main(String[] args) {
        counting();
        refusals();
        assumedArgs();
        assumedFields();
        deadOnesDoNotCount();
        plainParts();
        knownSums();
        knownTrap();
        halfKnown();
        laidForJumps();
        laidForTargets();
        targetsOfDeadOnes();
        leftByRet();
        firstIsTarget();
        sureWays();
        stores();
        rowsAndFields();
        dupAndPop();
        returning();
        guardAtHead();
        guardBehindCall();
        guardBehindCallAtHead();
        frameIsRebuilt();
        olderCodeGoesOn();
        olderCodeLeavesNewer();
        fullCode();
        digests();
        Due.end();
    }

    private static void counting() {
        TemplateForge f = new TemplateForge();
        Due.method(f, 1, 1, LOAD, 0, RET, 0);
        int[][] want = {{0, 1, 0, 0, 0, 0, 2, 1}, {0, 2, 0, 0, 0, 0, 2, 1}, {0, 3, 0, 0, 0, 0, 2, 1},
            {1, 3, 1, 0, 1, 3, 2, 1}, {1, 3, 1, 0, 2, 3, 2, 1}};
        for (int k = 0; k < 5; k++) {
            Due.due("run", f.run(0, 6, 0, 0), 0);
            Due.due("count(4)", f.count(4), k < 3 ? 0 : 1);
            Due.due("count(5)", f.count(5), 0);
            for (int what = 0; what < 8; what++) {
                Due.due("of(0, " + what + ") after " + (k + 1), f.of(0, what), want[k][what]);
            }
        }
        Due.parts(f, 0, GARG, 0, 6, 0, 0, LI, 7, 6, 0, 1, P_RET, 0, 7, 0, 1);
        Due.due("run with another ARG", f.run(0, 7, 0, 0), 0);
        Due.due("answer", f.answer(), 7);
        int[] failed = {0, 0, 1, 1, 3, 3, 2, 1};
        for (int what = 0; what < 8; what++) {
            Due.due("of(0, " + what + ") after a GUARD", f.of(0, what), failed[what]);
        }
        Due.due("count(4)", f.count(4), 1);
        Due.due("count(5)", f.count(5), 1);
        Due.due("varies(0, 0)", f.varies(0, 0), 1);
        Due.parts(f, 0, GARG, 0, 6, 0, 0, LI, 7, 6, 0, 1, P_RET, 0, 7, 0, 1);
        Due.runs(f, 3, 0, 6, 0, 0, 0);
        Due.due("count(5)", f.count(5), 0);
        Due.due("of(0, 0)", f.of(0, 0), 0);
        Due.due("of(0, 1)", f.of(0, 1), 3);
        Due.runs(f, 1, 0, 6, 0, 0, 0);
        Due.parts(f, 0, MOVE, 7, 0, 0, 0, P_RET, 0, 7, 0, 1);
        Due.due("of(0, 2)", f.of(0, 2), 2);
        Due.due("of(0, 4)", f.of(0, 4), 4);
    }

    private static void refusals() {
        TemplateForge f = new TemplateForge();
        Due.method(f, 1, 1, LOAD, 0, RET, 0);
        Due.due("part without CODE", f.part(0, 0, 0), LEAST);
        Due.runs(f, 4, 0, 6, 0, 0, 0);
        for (int bad : new int[] {-1, 8, LEAST, MOST}) {
            Due.due("of(0, " + bad + ")", f.of(0, bad), -2);
        }
        for (int bad : new int[] {-1, 1, 8, LEAST, MOST}) {
            Due.due("of(" + bad + ", 0)", f.of(bad, 0), -2);
            Due.due("part(" + bad + ", 0, 0)", f.part(bad, 0, 0), LEAST);
            Due.due("varies(" + bad + ", 0)", f.varies(bad, 0), -2);
            Due.due("varies(" + bad + ", 10)", f.varies(bad, 10), -2);
        }
        for (int bad : new int[] {-1, 3, 4, LEAST, MOST}) {
            Due.due("part(0, " + bad + ", 0)", f.part(0, bad, 0), LEAST);
        }
        for (int bad : new int[] {-1, 5, 6, LEAST, MOST}) {
            Due.due("part(0, 0, " + bad + ")", f.part(0, 0, bad), LEAST);
            Due.due("part(0, 1, " + bad + ")", f.part(0, 1, bad), LEAST);
        }
        for (int bad : new int[] {-1, 3, 9, 18, LEAST, MOST}) {
            Due.due("varies(0, " + bad + ")", f.varies(0, bad), -2);
        }
        for (int x : new int[] {0, 10, 11, 12, 13, 14, 15, 16, 17}) {
            Due.due("varies(0, " + x + ")", f.varies(0, x), 0);
        }
    }

    private static void assumedArgs() {
        // 0 LOADED and always the same; 1 LOADED, not the same; 2 not LOADED
        TemplateForge f = new TemplateForge();
        Due.method(f, 3, 3, LOAD, 0, LOAD, 1, ADD, 0, RET, 0);
        f.run(0, 5, 1, 9);
        f.run(0, 5, 1, 9);
        f.run(0, 5, 2, 9);
        f.run(0, 5, 2, 9);
        Due.parts(f, 0, GARG, 0, 5, 0, 0, MOVE, 8, 1, 0, 1, LI, 7, 5, 0, 2, P_ADD, 7, 7, 8, 2, P_RET, 0, 7, 0, 3);
        Due.due("answer", f.answer(), 7);
        // that the first call differs counts as well, and the fourth's own ARGS do not
        f = new TemplateForge();
        Due.method(f, 2, 2, LOAD, 0, LOAD, 1, ADD, 0, RET, 0);
        f.run(0, 1, 3, 0);
        f.run(0, 2, 3, 0);
        f.run(0, 2, 3, 0);
        Due.due("run with a GUARD that fails at once", f.run(0, 2, 4, 0), 0);
        Due.due("answer", f.answer(), 6);
        Due.due("varies(0, 0)", f.varies(0, 0), 0);
        Due.due("varies(0, 1)", f.varies(0, 1), 1);
        Due.due("of(0, 2)", f.of(0, 2), 1);
        Due.due("of(0, 3)", f.of(0, 3), 1);
        Due.parts(f, 0, GARG, 1, 3, 0, 0, MOVE, 7, 0, 0, 0, LI, 8, 3, 0, 2, P_ADD, 7, 7, 8, 2, P_RET, 0, 7, 0, 3);
        // a STORED one is not assumed; a LOCAL that is no ARG neither
        f = new TemplateForge();
        Due.method(f, 2, 3, LOAD, 0, LOAD, 1, STORE, 0, LOAD, 2, ADD, 0, RET, 0);
        Due.runs(f, 4, 0, 5, 6, 0, 0);
        Due.parts(f, 0, GARG, 1, 6, 0, 0, MOVE, 7, 0, 0, 0, LI, 0, 6, 0, 2, MOVE, 8, 2, 0, 3, P_ADD, 7, 7, 8, 4,
                P_RET, 0, 7, 0, 5);
        // two that fail: the first alone VARIES
        f = new TemplateForge();
        Due.method(f, 3, 3, LOAD, 2, LOAD, 0, ADD, 0, LOAD, 1, ADD, 0, RET, 0);
        Due.runs(f, 4, 0, 1, 2, 3, 0);
        Due.due("of(0, 5)", f.of(0, 5), 5);
        Due.due("part(0, 2, 1)", f.part(0, 2, 1), 2);
        f.run(0, 1, 7, 8);
        Due.due("answer", f.answer(), 16);
        Due.due("count(5)", f.count(5), 1);
        Due.due("varies(0, 0)", f.varies(0, 0), 0);
        Due.due("varies(0, 1)", f.varies(0, 1), 1);
        Due.due("varies(0, 2)", f.varies(0, 2), 0);
    }

    private static void assumedFields() {
        // 2 and 7 read, always the same; 3 read, not the same; 4 read and written; 5 not read
        TemplateForge f = new TemplateForge();
        Due.method(f, 1, 1, FIELD, 7, FIELD, 2, ADD, 0, FIELD, 3, ADD, 0, FIELD, 4, ADD, 0, KEEP, 4, LOAD, 0, RET, 0);
        f.keep(2, 20);
        f.keep(7, 70);
        f.run(0, 1, 0, 0);
        f.keep(3, 33);
        f.run(0, 1, 0, 0);
        f.keep(3, 0);
        f.run(0, 1, 0, 0);
        f.run(0, 1, 0, 0);
        Due.parts(f, 0, GARG, 0, 1, 0, 0, GFLD, 2, 20, 0, 0, GFLD, 7, 70, 0, 0, FLD, 8, 3, 0, 3, LI, 7, 90, 0, 4, P_ADD,
                7, 7, 8, 4, FLD, 8, 4, 0, 5, P_ADD, 7, 7, 8, 6, STF, 4, 7, 0, 7, LI, 7, 1, 0, 9, P_RET, 0, 7, 0, 9);
        Due.due("field(4)", f.field(4), 4 * 90 + 33);
        f.keep(7, 71);
        Due.due("run with another FIELD", f.run(0, 1, 0, 0), 0);
        Due.due("field(4)", f.field(4), 5 * 90 + 34);
        Due.due("varies(0, 17)", f.varies(0, 17), 1);
        Due.due("varies(0, 12)", f.varies(0, 12), 0);
        Due.due("varies(0, 0)", f.varies(0, 0), 0);
        // a FIELD that is kept by another METHOD only may be assumed
        f = new TemplateForge();
        Due.method(f, 0, 0, FIELD, 0, RET, 0);
        Due.method(f, 1, 1, LOAD, 0, KEEP, 0, PUSH, 0, RET, 0);
        Due.runs(f, 4, 0, 0, 0, 0, 0);
        Due.parts(f, 0, GFLD, 0, 0, 0, 0, LI, 7, 0, 0, 1, P_RET, 0, 7, 0, 1);
        f.run(1, 0, 0, 0);
        f.run(0, 0, 0, 0);
        Due.due("of(0, 3)", f.of(0, 3), 0);
        f.run(1, 4, 0, 0);
        f.run(0, 0, 0, 0);
        Due.due("of(0, 3)", f.of(0, 3), 1);
        Due.due("answer", f.answer(), 4);
    }

    private static void deadOnesDoNotCount() {
        // 0: LOADED by a DEAD one only; 1: STORED by a DEAD one only; FIELD 1 read, FIELD 2 written by DEAD ones only
        TemplateForge f = new TemplateForge();
        Due.method(f, 2, 2, LOAD, 1, FIELD, 2, ADD, 0, RET, 0, LOAD, 0, STORE, 1, FIELD, 1, KEEP, 2, PUSH, 0, RET, 0);
        Due.runs(f, 4, 0, 8, 9, 0, 0);
        Due.parts(f, 0, GARG, 1, 9, 0, 0, GFLD, 2, 0, 0, 0, LI, 7, 9, 0, 3, P_RET, 0, 7, 0, 3);
    }

    /** Nothing is KNOWN: a METHOD whose ARGS are never the same. */
    private static void plainParts() {
        for (int op = ADD; op <= SAME; op++) {
            TemplateForge f = new TemplateForge();
            Due.method(f, 2, 2, LOAD, 0, LOAD, 1, op, 0, RET, 0);
            for (int k = 1; k <= 4; k++) {
                f.run(0, k, k + 1, 0);
            }
            Due.parts(f, 0, MOVE, 7, 0, 0, 0, MOVE, 8, 1, 0, 1, op - 1, 7, 7, 8, 2, P_RET, 0, 7, 0, 3);
        }
    }

    private static void knownSums() {
        int[][] want = {{ADD, MOST, 1, LEAST}, {SUB, LEAST, 1, MOST}, {MUL, 65536, 65536, 0}, {DIV, -7, 2, -3},
            {DIV, LEAST, -1, LEAST}, {DIV, 0, 3, 0}, {LESS, 1, 2, 1}, {LESS, 2, 1, 0}, {LESS, 2, 2, 0}, {SAME, 4, 4, 1},
            {SAME, 4, 5, 0}};
        for (int[] w : want) {
            TemplateForge f = new TemplateForge();
            Due.method(f, 0, 0, PUSH, w[1], PUSH, w[2], w[0], 0, RET, 0);
            for (int k = 0; k < 4; k++) {
                f.run(0, 0, 0, 0);
                Due.due("answer of op " + w[0], f.answer(), w[3]);
            }
            Due.parts(f, 0, LI, 7, w[3], 0, 3, P_RET, 0, 7, 0, 3);
        }
        // of one sum into the next, with ARG and FIELD
        TemplateForge f = new TemplateForge();
        Due.method(f, 1, 1, LOAD, 0, FIELD, 1, MUL, 0, PUSH, 2, ADD, 0, RET, 0);
        f.keep(1, 5);
        Due.runs(f, 4, 0, 4, 0, 0, 0);
        Due.parts(f, 0, GARG, 0, 4, 0, 0, GFLD, 1, 5, 0, 0, LI, 7, 22, 0, 5, P_RET, 0, 7, 0, 5);
        Due.due("answer", f.answer(), 22);
    }

    private static void knownTrap() {
        TemplateForge f = new TemplateForge();
        Due.method(f, 0, 0, PUSH, 3, PUSH, 4, PUSH, 0, DIV, 0, ADD, 0, RET, 0);
        for (int k = 0; k < 5; k++) {
            Due.due("run by 0", f.run(0, 0, 0, 0), 1);
            Due.due("trap(0)", f.trap(0), 1);
            Due.due("trap(2)", f.trap(2), 3);
        }
        Due.parts(f, 0, LI, 8, 4, 0, 3, LI, 9, 0, 0, 3, P_DIV, 8, 8, 9, 3, LI, 7, 3, 0, 4, P_ADD, 7, 7, 8, 4,
                P_RET, 0, 7, 0, 5);
    }

    private static void halfKnown() {
        TemplateForge f = new TemplateForge();
        Due.method(f, 1, 1, PUSH, 40, LOAD, 0, SUB, 0, PUSH, 2, DIV, 0, RET, 0);
        for (int k = 1; k <= 4; k++) {
            f.run(0, k * 2, 0, 0);
            Due.due("answer", f.answer(), 20 - k);
        }
        Due.parts(f, 0, MOVE, 8, 0, 0, 1, LI, 7, 40, 0, 2, 3, 7, 7, 8, 2, LI, 8, 2, 0, 4, P_DIV, 7, 7, 8, 4,
                P_RET, 0, 7, 0, 5);
    }

    private static void laidForJumps() {
        // JUMP lays all that is KNOWN, the lowest first; WHEN of what is not KNOWN lays all others
        TemplateForge f = new TemplateForge();
        Due.method(f, 1, 1, PUSH, 1, LOAD, 0, PUSH, 3, JUMP, 4, ADD, 0, ADD, 0, RET, 0);
        vary(f);
        Due.parts(f, 0, MOVE, 8, 0, 0, 1, LI, 7, 1, 0, 3, LI, 9, 3, 0, 3, JMP, 4, 0, 0, 3, P_ADD, 8, 8, 9, 4, P_ADD, 7,
                7, 8, 5, P_RET, 0, 7, 0, 6);
        f = new TemplateForge();
        Due.method(f, 1, 1, PUSH, 1, PUSH, 2, LOAD, 0, WHEN, 6, ADD, 0, RET, 0, SUB, 0, RET, 0);
        vary(f);
        Due.parts(f, 0, MOVE, 9, 0, 0, 2, LI, 7, 1, 0, 3, LI, 8, 2, 0, 3, JZ, 6, 9, 0, 3, P_ADD, 7, 7, 8, 4, P_RET, 0,
                7, 0, 5, 3, 7, 7, 8, 6, P_RET, 0, 7, 0, 7);
        Due.due("answer", f.answer(), 3);
        f.run(0, 0, 0, 0);
        Due.due("answer", f.answer(), -1);
    }

    private static void vary(TemplateForge f) {
        for (int k = 1; k <= 4; k++) {
            Due.due("run", f.run(0, k, k, k), 0);
        }
        Due.due("of(0, 0)", f.of(0, 0), 1);
    }

    private static void laidForTargets() {
        // ahead of TARGET 5 the two KNOWN places are LAID for 4; LOCAL 1 is KNOWN no more behind it, ARG 1 is
        TemplateForge f = new TemplateForge();
        Due.method(f, 2, 3, LOAD, 0, WHEN, 7, PUSH, 6, STORE, 2, PUSH, 5, JUMP, 8, PUSH, 0, PUSH, 9, LOAD, 2, ADD, 0,
                LOAD, 1, ADD, 0, RET, 0);
        for (int k = 1; k <= 4; k++) {
            f.run(0, k, 30, 0);
            Due.due("answer", f.answer(), 41);
        }
        Due.parts(f, 0, GARG, 1, 30, 0, 0, MOVE, 7, 0, 0, 0, JZ, 7, 7, 0, 1, LI, 2, 6, 0, 3, LI, 7, 5, 0, 5, JMP, 8, 0,
                0, 5, LI, 7, 9, 0, 7, MOVE, 8, 2, 0, 8, P_ADD, 7, 7, 8, 9, LI, 8, 30, 0, 11, P_ADD, 7, 7, 8, 11, P_RET,
                0, 7, 0, 12);
        f.run(0, 0, 30, 0);
        Due.due("answer by the other way", f.answer(), 39);
    }

    private static void targetsOfDeadOnes() {
        // the JUMP at 4 is DEAD: 2 is no TARGET, so both PUSHES are KNOWN at ADD
        TemplateForge f = new TemplateForge();
        Due.method(f, 0, 0, PUSH, 1, PUSH, 2, ADD, 0, RET, 0, JUMP, 2);
        Due.runs(f, 4, 0, 0, 0, 0, 0);
        Due.parts(f, 0, LI, 7, 3, 0, 3, P_RET, 0, 7, 0, 3);
        // a WHEN that is folded away has made its X a TARGET all the same
        f = new TemplateForge();
        Due.method(f, 0, 0, PUSH, 1, PUSH, 1, WHEN, 3, PUSH, 2, ADD, 0, RET, 0);
        Due.runs(f, 4, 0, 0, 0, 0, 0);
        Due.parts(f, 0, LI, 7, 1, 0, 2, LI, 8, 2, 0, 4, P_ADD, 7, 7, 8, 4, P_RET, 0, 7, 0, 5);
        Due.due("answer", f.answer(), 3);
        // a TARGET behind a JUMP: what was KNOWN there is not
        f = new TemplateForge();
        Due.method(f, 1, 2, PUSH, 4, STORE, 1, LOAD, 0, WHEN, 6, LOAD, 1, RET, 0, LOAD, 1, RET, 0);
        vary(f);
        Due.parts(f, 0, LI, 1, 4, 0, 1, MOVE, 7, 0, 0, 2, JZ, 6, 7, 0, 3, LI, 7, 4, 0, 5, P_RET, 0, 7, 0, 5, MOVE, 7, 1,
                0, 6, P_RET, 0, 7, 0, 7);
    }

    /** What RET leaves KNOWN is not LAID ahead of a TARGET: the one ahead of that is DEAD, or is the RET. */
    private static void leftByRet() {
        TemplateForge f = new TemplateForge();
        Due.method(f, 1, 1, LOAD, 0, WHEN, 6, PUSH, 1, PUSH, 2, RET, 0, POP, 0, PUSH, 3, RET, 0);
        vary(f);
        Due.parts(f, 0, MOVE, 7, 0, 0, 0, JZ, 6, 7, 0, 1, LI, 8, 2, 0, 4, P_RET, 0, 8, 0, 4, LI, 7, 3, 0, 7, P_RET, 0,
                7, 0, 7);
        f = new TemplateForge();
        Due.method(f, 1, 1, LOAD, 0, WHEN, 5, PUSH, 1, PUSH, 2, RET, 0, PUSH, 3, RET, 0);
        vary(f);
        Due.parts(f, 0, MOVE, 7, 0, 0, 0, JZ, 5, 7, 0, 1, LI, 8, 2, 0, 4, P_RET, 0, 8, 0, 4, LI, 7, 3, 0, 6, P_RET, 0,
                7, 0, 6);
    }

    private static void firstIsTarget() {
        TemplateForge f = new TemplateForge();
        Due.method(f, 1, 2, LOAD, 1, LOAD, 0, LESS, 0, WHEN, 9, LOAD, 1, PUSH, 1, ADD, 0, STORE, 1, JUMP, 0, FIELD, 6,
                RET, 0);
        for (int k = 0; k < 5; k++) {
            Due.due("run", f.run(0, 4, 0, 0), 0);
            Due.due("answer", f.answer(), 0);
            Due.due("count(2)", f.count(2), 5);
        }
        Due.parts(f, 0, GARG, 0, 4, 0, 0, GFLD, 6, 0, 0, 0, MOVE, 7, 1, 0, 0, LI, 8, 4, 0, 2, 6, 7, 7, 8, 2, JZ, 9, 7,
                0, 3, MOVE, 7, 1, 0, 4, LI, 8, 1, 0, 6, P_ADD, 7, 7, 8, 6, MOVE, 1, 7, 0, 7, JMP, 0, 0, 0, 8, LI, 7, 0,
                0, 10, P_RET, 0, 7, 0, 10);
    }

    private static void sureWays() {
        // c is KNOWN: 0 goes (what else is KNOWN is LAID, c is not), another does not (nothing)
        TemplateForge f = new TemplateForge();
        Due.method(f, 1, 1, PUSH, 5, LOAD, 0, WHEN, 5, PUSH, 1, RET, 0, PUSH, 2, ADD, 0, RET, 0);
        Due.runs(f, 4, 0, 0, 0, 0, 0);
        Due.parts(f, 0, GARG, 0, 0, 0, 0, LI, 7, 5, 0, 2, JMP, 5, 0, 0, 2, LI, 8, 1, 0, 4, P_RET, 0, 8, 0, 4, LI, 8, 2,
                0, 6, P_ADD, 7, 7, 8, 6, P_RET, 0, 7, 0, 7);
        Due.due("answer", f.answer(), 7);
        f = new TemplateForge();
        Due.method(f, 1, 1, PUSH, 5, LOAD, 0, WHEN, 6, PUSH, 1, ADD, 0, RET, 0, RET, 0);
        Due.runs(f, 4, 0, -3, 0, 0, 0);
        Due.parts(f, 0, GARG, 0, -3, 0, 0, LI, 7, 6, 0, 5, P_RET, 0, 7, 0, 5, P_RET, 0, 7, 0, 6);
        Due.due("answer", f.answer(), 6);
        f.run(0, 0, 0, 0);
        Due.due("answer by the other way", f.answer(), 5);
        Due.due("varies(0, 0)", f.varies(0, 0), 1);
    }

    private static void stores() {
        // KNOWN, then not, of the same LOCAL
        TemplateForge f = new TemplateForge();
        Due.method(f, 1, 2, PUSH, 3, STORE, 1, LOAD, 1, LOAD, 0, STORE, 1, LOAD, 1, ADD, 0, RET, 0);
        vary(f);
        Due.parts(f, 0, LI, 1, 3, 0, 1, MOVE, 8, 0, 0, 3, MOVE, 1, 8, 0, 4, MOVE, 8, 1, 0, 5, LI, 7, 3, 0, 6, P_ADD, 7,
                7, 8, 6, P_RET, 0, 7, 0, 7);
        Due.due("answer", f.answer(), 7);
    }

    private static void rowsAndFields() {
        TemplateForge f = new TemplateForge();
        Due.method(f, 1, 1, PUSH, 4, NEW, 2, PUSH, 1, PUSH, 30, SET, 2, LOAD, 0, LOAD, 0, SET, 2, PUSH, 1, GET, 2,
                LOAD, 0, GET, 2, ADD, 0, KEEP, 5, PUSH, 6, KEEP, 1, LOAD, 0, NEW, 0, FIELD, 5, RET, 0);
        for (int k = 0; k < 4; k++) {
            f.run(0, k, 0, 0);
            Due.due("answer", f.answer(), k == 1 ? 2 : 30 + k);
            Due.due("size(0)", f.size(0), k);
            Due.due("field(1)", f.field(1), 6);
        }
        Due.parts(f, 0, LI, 7, 4, 0, 1, P_NEW, 2, 7, 0, 1, LI, 7, 1, 0, 4, LI, 8, 30, 0, 4, P_SET, 2, 7, 8, 4, MOVE, 7,
                0, 0, 5, MOVE, 8, 0, 0, 6, P_SET, 2, 7, 8, 7, LI, 7, 1, 0, 9, P_GET, 7, 2, 7, 9, MOVE, 8, 0, 0, 10,
                P_GET, 8, 2, 8, 11, P_ADD, 7, 7, 8, 12, STF, 5, 7, 0, 13, LI, 7, 6, 0, 15, STF, 1, 7, 0, 15, MOVE, 7, 0,
                0, 16, P_NEW, 0, 7, 0, 17, FLD, 7, 5, 0, 18, P_RET, 0, 7, 0, 19);
    }

    private static void dupAndPop() {
        TemplateForge f = new TemplateForge();
        Due.method(f, 1, 1, PUSH, 3, DUP, 0, LOAD, 0, DUP, 0, POP, 0, ADD, 0, PUSH, 8, POP, 0, ADD, 0, RET, 0);
        vary(f);
        Due.parts(f, 0, MOVE, 9, 0, 0, 2, MOVE, 10, 9, 0, 3, LI, 8, 3, 0, 5, P_ADD, 8, 8, 9, 5, LI, 7, 3, 0, 8, P_ADD,
                7, 7, 8, 8, P_RET, 0, 7, 0, 9);
        Due.due("answer", f.answer(), 10);
    }

    private static void returning() {
        // of RET v alone is LAID; CALL lays all, GUARDS stand behind it, the result is not KNOWN, LOCALS stay KNOWN
        TemplateForge f = new TemplateForge();
        f.method(0, 1);
        f.method(2, 2);
        f.method(0, 0);
        Due.write(f, 0, PUSH, 9, PUSH, 1, FIELD, 3, CALL, 1, PUSH, 7, STORE, 0, FIELD, 0, CALL, 2, ADD, 0, ADD, 0,
                ADD, 0, LOAD, 0, RET, 0);
        Due.write(f, 1, LOAD, 0, LOAD, 1, ADD, 0, RET, 0);
        Due.write(f, 2, PUSH, 100, RET, 0);
        for (int m = 0; m < 3; m++) {
            Due.due("look(" + m + ")", f.look(m), new int[] {4, 2, 1}[m]);
        }
        f.keep(3, 33);
        Due.runs(f, 4, 0, 0, 0, 0, 0);
        Due.parts(f, 0, GFLD, 0, 0, 0, 0, GFLD, 3, 33, 0, 0, LI, 7, 9, 0, 3, LI, 8, 1, 0, 3, LI, 9, 33, 0, 3, P_CALL, 8,
                1, 0, 3, GFLD, 0, 0, 0, 3, GFLD, 3, 33, 0, 3, LI, 0, 7, 0, 5, LI, 9, 0, 0, 7, P_CALL, 10, 2, 0, 7, GFLD,
                0, 0, 0, 7, GFLD, 3, 33, 0, 7, P_ADD, 9, 9, 10, 8, P_ADD, 8, 8, 9, 9, P_ADD, 7, 7, 8, 10, LI, 8, 7, 0,
                12, P_RET, 0, 8, 0, 12);
        Due.due("answer", f.answer(), 7);
        f = new TemplateForge();
        Due.method(f, 0, 0, PUSH, 1, PUSH, 2, PUSH, 3, RET, 0);
        Due.runs(f, 4, 0, 0, 0, 0, 0);
        Due.parts(f, 0, LI, 9, 3, 0, 3, P_RET, 0, 9, 0, 3);
    }

    private static void guardAtHead() {
        TemplateForge f = new TemplateForge();
        Due.method(f, 2, 2, PUSH, 50, LOAD, 0, SUB, 0, LOAD, 1, SUB, 0, RET, 0);
        Due.runs(f, 4, 0, 1, 2, 0, 0);
        Due.due("answer", f.answer(), 47);
        Due.runs(f, 1, 0, 1, 5, 0, 0);
        Due.due("answer by INSTRUCTIONS", f.answer(), 44);
        Due.due("of(0, 0)", f.of(0, 0), 0);
        Due.due("of(0, 1)", f.of(0, 1), 0);
        // what was remembered before is forgotten: ARG 0 is 3 in the three calls that count now
        Due.runs(f, 4, 0, 3, 5, 0, 0);
        Due.parts(f, 0, GARG, 0, 3, 0, 0, MOVE, 8, 1, 0, 3, LI, 7, 47, 0, 4, 3, 7, 7, 8, 4, P_RET, 0, 7, 0, 5);
        Due.runs(f, 1, 0, 4, 5, 0, 0);
        Due.due("of(0, 3)", f.of(0, 3), 2);
        Due.due("varies(0, 0)", f.varies(0, 0), 1);
        Due.due("varies(0, 1)", f.varies(0, 1), 1);
        Due.runs(f, 4, 0, 4, 5, 0, 0);
        Due.due("no GUARD is left", f.part(0, 0, 0), LI + 1);
        Due.due("of(0, 2)", f.of(0, 2), 3);
    }

    /** METHOD 0 keeps its ARG in FIELD 1; METHOD 1 assumes FIELD 1, has its PILE filled, and calls METHOD 0. */
    private static TemplateForge withKeeper() {
        TemplateForge f = new TemplateForge();
        Due.method(f, 1, 1, LOAD, 0, KEEP, 1, PUSH, 2, RET, 0);
        Due.method(f, 1, 3, PUSH, 4, STORE, 2, LOAD, 0, STORE, 1, PUSH, 1000, FIELD, 1, LOAD, 0, CALL, 0, MUL, 0,
                FIELD, 1, ADD, 0, ADD, 0, LOAD, 1, MUL, 0, LOAD, 2, ADD, 0, RET, 0);
        return f;
    }

    private static void guardBehindCall() {
        TemplateForge f = withKeeper();
        f.keep(1, 3);
        for (int k = 0; k < 5; k++) {
            f.run(1, 3, 0, 0);
            Due.due("answer", f.answer(), (1000 + 3 * 2 + 3) * 3 + 4);
        }
        Due.due("of(1, 0)", f.of(1, 0), 1);
        Due.due("run to another FIELD, with another ARG", f.run(1, 8, 0, 0), 0);
        Due.due("answer", f.answer(), (1000 + 3 * 2 + 8) * 8 + 4);
        Due.due("varies(1, 0)", f.varies(1, 0), 1);
        Due.due("varies(1, 11)", f.varies(1, 11), 0);
        Due.due("count(5): of METHOD 1 and of METHOD 0", f.count(5), 2);
        f.keep(1, 3);
        for (int k = 0; k < 2; k++) {
            f.run(1, 3, 0, 0);
        }
        Due.due("of(1, 1)", f.of(1, 1), 2);
        f.run(1, 3, 0, 0);
        f.run(1, 3, 0, 0);
        Due.due("of(1, 2)", f.of(1, 2), 2);
        Due.due("run to another FIELD", f.run(1, 8, 0, 0), 0);
        Due.due("answer", f.answer(), (1000 + 3 * 2 + 8) * 8 + 4);
        Due.due("count(5)", f.count(5), 1);
        Due.due("varies(1, 11)", f.varies(1, 11), 1);
        Due.due("of(1, 0)", f.of(1, 0), 0);
        Due.due("of(1, 1)", f.of(1, 1), 0);
    }

    /** INSTRUCTION 0 is the CALL: its GUARDS belong to INSTRUCTION 0 as those of the head do, but go on at 1. */
    private static void guardBehindCallAtHead() {
        TemplateForge f = new TemplateForge();
        Due.method(f, 0, 0, FIELD, 2, FIELD, 3, PUSH, 1, ADD, 0, KEEP, 3, KEEP, 1, PUSH, 5, RET, 0);
        Due.method(f, 0, 0, CALL, 0, FIELD, 1, ADD, 0, RET, 0);
        for (int k = 0; k < 4; k++) {
            f.run(1, 0, 0, 0);
            Due.due("answer", f.answer(), 5);
        }
        Due.parts(f, 1, GFLD, 1, 0, 0, 0, P_CALL, 7, 0, 0, 0, GFLD, 1, 0, 0, 0, LI, 8, 0, 0, 2, P_ADD, 7, 7, 8, 2,
                P_RET, 0, 7, 0, 3);
        f.keep(2, 40);
        f.run(1, 0, 0, 0);
        Due.due("answer", f.answer(), 45);
        Due.due("field(3): METHOD 0 was called once more, not twice", f.field(3), 5);
        Due.due("varies(1, 11)", f.varies(1, 11), 1);
        Due.due("count(5)", f.count(5), 2);
        Due.due("of(0, 3)", f.of(0, 3), 1);
        Due.due("of(1, 3)", f.of(1, 3), 1);
    }

    /** The PILE has seven places and the result, LOCALS are 1 to 6: all are there where it goes on. */
    private static void frameIsRebuilt() {
        TemplateForge f = new TemplateForge();
        Due.method(f, 0, 0, FIELD, 2, KEEP, 1, PUSH, 1, RET, 0);
        int m = f.method(0, 6);
        for (int k = 0; k < 6; k++) {
            Due.write(f, m, PUSH, k + 1, STORE, k);
        }
        for (int k = 0; k < 6; k++) {
            Due.write(f, m, PUSH, 10 + k);
        }
        Due.write(f, m, FIELD, 1, CALL, 0);
        for (int k = 0; k < 7; k++) {
            // each place under the top by 3 and more
            Due.write(f, m, STORE, 5, PUSH, 3, MUL, 0, LOAD, 5, ADD, 0);
        }
        Due.due("length ahead of LOCALS", f.of(m, 6), 55);
        Due.write(f, m, LOAD, 4, MUL, 0, LOAD, 0, ADD, 0, RET, 0);
        Due.due("look", f.look(m), 8);
        f.keep(1, 7);
        f.keep(2, 7);
        int[] answers = new int[6];
        for (int k = 0; k < 5; k++) {
            Due.due("run", f.run(m, 0, 0, 0), 0);
            answers[k] = f.answer();
            Due.due("answer stays", answers[k], answers[0]);
        }
        int sum = 1;
        int[] places = {10, 11, 12, 13, 14, 15, 7};
        for (int k = 6; k >= 0; k--) {
            sum = places[k] * 3 + sum;
        }
        Due.due("answer", answers[0], sum * 5 + 1);
        f.keep(2, 8);
        Due.due("run with a GUARD that fails in the midst", f.run(m, 0, 0, 0), 0);
        Due.due("answer: FIELD 1 was read ahead of it", f.answer(), sum * 5 + 1);
        Due.due("varies(m, 11)", f.varies(m, 11), 1);
        Due.due("field(1)", f.field(1), 8);
    }

    /**
     * METHOD 1 goes down by its ARG, and calls METHOD 0 at the bottom, which changes FIELD 1: behind it every open call
     * finds its own GUARD failed, the lowest first, in CODE that was thrown away by then.
     */
    private static void olderCodeGoesOn() {
        TemplateForge f = new TemplateForge();
        Due.method(f, 0, 0, FIELD, 2, KEEP, 1, PUSH, 0, RET, 0);
        Due.method(f, 1, 1, LOAD, 0, WHEN, 9, LOAD, 0, PUSH, 1, SUB, 0, CALL, 1, FIELD, 1, ADD, 0, RET, 0, CALL, 0,
                FIELD, 1, ADD, 0, RET, 0);
        f.run(1, 5, 0, 0);
        f.run(1, 5, 0, 0);
        Due.due("of(1, 0)", f.of(1, 0), 1);
        Due.due("of(1, 2)", f.of(1, 2), 1);
        Due.due("of(1, 4)", f.of(1, 4), 9);
        f.keep(2, 6);
        Due.due("run", f.run(1, 5, 0, 0), 0);
        Due.due("answer", f.answer(), 36);
        Due.due("of(1, 3)", f.of(1, 3), 6);
        Due.due("of(1, 0)", f.of(1, 0), 0);
        Due.due("of(1, 1)", f.of(1, 1), 0);
        Due.due("of(1, 4)", f.of(1, 4), 15);
        Due.due("varies(1, 11)", f.varies(1, 11), 1);
        Due.due("count(3)", f.count(3), 7);
        Due.due("count(4)", f.count(4), 6);
        Due.due("count(5)", f.count(5), 6);
    }

    /** An open call's older CODE fails while the METHOD has newer CODE: that stays, and so does what it counted. */
    private static void olderCodeLeavesNewer() {
        TemplateForge f = new TemplateForge();
        Due.method(f, 0, 0, FIELD, 2, KEEP, 1, PUSH, 0, RET, 0);
        // 0: calls METHOD 0, then itself with 2 four times; 1: calls itself with 0; else: FIELD 1 alone
        Due.method(f, 1, 1, LOAD, 0, PUSH, 2, LESS, 0, WHEN, 23, LOAD, 0, WHEN, 9, PUSH, 0, CALL, 1, JUMP, 22, CALL, 0,
                PUSH, 2, CALL, 1, POP, 0, PUSH, 2, CALL, 1, POP, 0, PUSH, 2, CALL, 1, POP, 0, PUSH, 2, CALL, 1, POP, 0,
                POP, 0, FIELD, 1, RET, 0);
        f.run(1, 2, 0, 0);
        f.run(1, 3, 0, 0);
        f.run(1, 2, 0, 0);
        Due.due("run", f.run(1, 1, 0, 0), 0);
        Due.due("answer", f.answer(), 0);
        Due.due("of(1, 4)", f.of(1, 4), 6);
        Due.due("part(1, 0, 0)", f.part(1, 0, 0), GFLD);
        f.keep(2, 6);
        Due.due("run", f.run(1, 1, 0, 0), 0);
        Due.due("answer", f.answer(), 6);
        int[] want = {1, 3, 2, 2, 9};
        for (int what = 0; what < want.length; what++) {
            Due.due("of(1, " + what + ")", f.of(1, what), want[what]);
        }
        Due.due("count(5)", f.count(5), 2);
        Due.due("varies(1, 11)", f.varies(1, 11), 1);
        Due.due("varies(1, 0)", f.varies(1, 0), 0);
        Due.due("part(1, 0, 0)", f.part(1, 0, 0), GARG);
        Due.due("part(1, 0, 2)", f.part(1, 0, 2), 2);
    }

    private static void fullCode() {
        // eight FIELDS and three ARGS assumed, a CALL, as many PARTS as it takes
        TemplateForge f = new TemplateForge();
        Due.method(f, 0, 0, PUSH, 0, RET, 0);
        int m = f.method(3, 3);
        for (int k = 0; k < 8; k++) {
            f.keep(k, 100 + k);
            Due.write(f, m, FIELD, k, POP, 0);
        }
        Due.write(f, m, LOAD, 0, POP, 0, LOAD, 1, POP, 0, LOAD, 2, POP, 0);
        for (int k = 0; k < 18; k++) {
            Due.write(f, m, CALL, 0, POP, 0);
        }
        Due.write(f, m, LOAD, 2, RET, 0);
        Due.due("look", f.look(m), 1);
        Due.runs(f, 4, m, 1, 2, 3, 0);
        Due.due("answer", f.answer(), 3);
        Due.due("of(m, 5)", f.of(m, 5), 11 + 18 * 9 + 2);
        for (int k = 0; k < 11; k++) {
            Due.due("part(m, " + k + ", 0)", f.part(m, k, 0), k < 3 ? GARG : GFLD);
            Due.due("part(m, " + k + ", 1)", f.part(m, k, 1), k < 3 ? k : k - 3);
            Due.due("part(m, " + k + ", 2)", f.part(m, k, 2), k < 3 ? k + 1 : 97 + k);
            Due.due("part(m, " + k + ", 3)", f.part(m, k, 3), 0);
            Due.due("part(m, " + k + ", 4)", f.part(m, k, 4), 0);
        }
        for (int k = 0; k < 18; k++) {
            Due.due("part of a CALL", f.part(m, 11 + 9 * k, 0), P_CALL);
            Due.due("part of its last GUARD", f.part(m, 19 + 9 * k, 1), 7);
            Due.due("the INSTRUCTION of its last GUARD", f.part(m, 19 + 9 * k, 4), 22 + 2 * k);
        }
    }

    private static long digestOf(TemplateForge f) {
        long h = 17;
        for (int k = 0; k < 8; k++) {
            h = 31 * h + f.field(k);
        }
        for (int r = 0; r < 4; r++) {
            h = 31 * h + f.size(r);
            for (int i = 0; i < f.size(r); i++) {
                h = 31 * h + f.item(r, i);
            }
        }
        h = 31 * h + f.answer();
        for (int what = 0; what <= 3; what++) {
            h = 31 * h + f.trap(what);
        }
        for (int m = 0; m < f.count(0); m++) {
            for (int what = 0; what <= 5; what++) {
                h = 31 * h + f.of(m, what);
            }
            for (int i = 0; i < f.of(m, 5); i++) {
                for (int what = 0; what <= 4; what++) {
                    h = 31 * h + f.part(m, i, what);
                }
            }
        }
        return h;
    }

    private static void digests() {
        TemplateForge f = new TemplateForge();
        Due.due("digest() of a new one", f.digest(), digestOf(f));
        Due.method(f, 2, 3, LOAD, 0, NEW, 1, PUSH, 2, LOAD, 1, SET, 1, FIELD, 3, PUSH, 2, GET, 1, DIV, 0, RET, 0);
        Due.method(f, 1, 1, LOAD, 0, PUSH, 9, CALL, 0, KEEP, 6, LOAD, 0, RET, 0);
        Due.due("digest() of METHODS", f.digest(), digestOf(f));
        for (int k = 0; k < 12; k++) {
            f.keep(3, -1000 * (k / 5));
            f.run(k % 2, 3 + k / 6, k / 9, 0);
            Due.due("digest()", f.digest(), digestOf(f));
        }
        f.run(0, 20, 0, 0);
        Due.due("trap(0)", f.trap(0), 1);
        Due.due("digest() of a TRAP", f.digest(), digestOf(f));
        f.lose(1);
        Due.due("digest() of a lost ROW", f.digest(), digestOf(f));
        long h = f.digest();
        f.keep(7, 1);
        Due.due("digest() of another FIELD 7", f.digest() == h ? 1 : 0, 0);
    }
}
