/** Terms, 3: THE CODE, its PARTS and how it is put together, a test for each of the document's words. */
final class SaysCode implements Ops {
    private SaysCode() {
    }

    static void all() {
        Doc.section("THE CODE has PARTS", "A GUARD (GARG, GFLD)");
        registers();
        constants();
        sums();
        jumps();
        calls();
        fields();
        rows();
        guards();
        whatAPartHasNot();
        belongs();
        guardsFirst();
        instructionByInstruction();
        targets();
        aheadOfTargets();
        knownAtTargets();
        firstBeginsSo();
        push();
        load();
        store();
        addToSame();
        jump();
        whenKnown();
        whenNot();
        call();
        ret();
        field();
        keepAndNew();
        getAndSet();
        dup();
        pop();
        laid();
    }

    /** METHOD 0 was called three times with ARGS that are never the same, and is in CODE now. */
    private static TemplateForge vary(int args, int locals, int... opsAndXs) {
        TemplateForge f = Due.with(args, locals, opsAndXs);
        for (int k = 1; k <= 4; k++) {
            f.run(0, k, k + 10, k + 20);
        }
        Due.due("of(0, 2)", f.of(0, 2), 1);
        return f;
    }

    /** METHOD 0 was called three times with the same ARGS, and is in CODE now. */
    private static TemplateForge same(int args, int locals, int... opsAndXs) {
        TemplateForge f = Due.with(args, locals, opsAndXs);
        for (int k = 1; k <= 4; k++) {
            f.run(0, 5, 6, 7);
        }
        Due.due("of(0, 2)", f.of(0, 2), 1);
        return f;
    }

    private static void registers() {
        Doc.says("THE CODE has PARTS: an op, d, a, b; registers 0 .. 6 are LOCALS, 7 + k place k of the PILE.");
        TemplateForge f = vary(3, 6, LOAD, 2, STORE, 5, LOAD, 0, LOAD, 1, LOAD, 2, LOAD, 3, LOAD, 4, LOAD, 5, LOAD, 0,
                LOAD, 1, RET, 0);
        Due.parts(f, 0, MOVE, 7, 2, 0, 0, MOVE, 5, 7, 0, 1, MOVE, 7, 0, 0, 2, MOVE, 8, 1, 0, 3, MOVE, 9, 2, 0, 4, MOVE,
                10, 3, 0, 5, MOVE, 11, 4, 0, 6, MOVE, 12, 5, 0, 7, MOVE, 13, 0, 0, 8, MOVE, 14, 1, 0, 9, P_RET, 0, 14,
                0, 10);
    }

    private static void constants() {
        Doc.says("PARTS: 0 LI: d is a.");
        Due.parts(same(0, 0, PUSH, LEAST, RET, 0), 0, 0, 7, LEAST, 0, 1, P_RET, 0, 7, 0, 1);
        Due.parts(same(0, 1, PUSH, MOST, STORE, 0, JUMP, 2), 0, 0, 0, MOST, 0, 1, JMP, 2, 0, 0, 2);
        Doc.says("1 MOVE: d is register a.");
        Due.parts(vary(1, 2, LOAD, 0, STORE, 1, LOAD, 1, RET, 0), 0, 1, 7, 0, 0, 0, 1, 1, 7, 0, 1, 1, 7, 1, 0, 2, P_RET,
                0, 7, 0, 3);
    }

    private static void sums() {
        Doc.says("2 to 8: ADD SUB MUL DIV LESS SAME of registers a, b into d: 2 ADD, 3 SUB, 4 MUL, 5 DIV, 6 LESS, 7 "
                + "SAME.");
        int[] ops = {ADD, SUB, MUL, DIV, LESS, SAME};
        for (int k = 0; k < 6; k++) {
            TemplateForge f = vary(2, 2, LOAD, 0, LOAD, 0, LOAD, 1, ops[k], 0, RET, 0);
            Due.parts(f, 0, MOVE, 7, 0, 0, 0, MOVE, 8, 0, 0, 1, MOVE, 9, 1, 0, 2, 2 + k, 8, 8, 9, 3, P_RET, 0, 8, 0, 4);
            Due.answers(f, 0, -7, 2, 0, new int[] {-5, -9, -14, -3, 1, 0}[k]);
        }
    }

    private static void jumps() {
        Doc.says("8 JMP: to INSTRUCTION d.");
        TemplateForge f = same(0, 0, JUMP, 3, PUSH, 1, RET, 0, PUSH, 2, RET, 0);
        Due.parts(f, 0, 8, 3, 0, 0, 0, LI, 7, 2, 0, 4, P_RET, 0, 7, 0, 4);
        Due.due("answer()", f.answer(), 2);
        Doc.says("9 JZ: to INSTRUCTION d, if register a is 0.");
        f = vary(1, 1, LOAD, 0, WHEN, 4, PUSH, 1, RET, 0, PUSH, 2, RET, 0);
        Due.parts(f, 0, MOVE, 7, 0, 0, 0, 9, 4, 7, 0, 1, LI, 7, 1, 0, 3, P_RET, 0, 7, 0, 3, LI, 7, 2, 0, 5, P_RET, 0, 7,
                0, 5);
        for (int c : new int[] {0, 1, -1, LEAST}) {
            Due.answers(f, 0, c, 0, 0, c == 0 ? 2 : 1);
        }
    }

    private static void calls() {
        Doc.says("10 CALL: METHOD a with the registers from d on, into d.");
        for (int args = 0; args <= 3; args++) {
            TemplateForge f = new TemplateForge();
            f.method(3, 3);
            Due.write(f, 0, LOAD, 0, LOAD, 0, LOAD, 1, LOAD, 2, CALL, 1, RET, 0);
            Due.method(f, args, 3, LOAD, 0, LOAD, 1, SUB, 0, LOAD, 2, SUB, 0, RET, 0);
            Due.look(f, 0, args == 0 ? 5 : 4, 0);
            for (int k = 1; k <= 4; k++) {
                Due.answers(f, 0, 10 * k, k, k + 1, new int[] {0, k + 1, -1, 8 * k - 1}[args]);
            }
            int into = 11 - args;
            Due.parts(f, 0, MOVE, 7, 0, 0, 0, MOVE, 8, 0, 0, 1, MOVE, 9, 1, 0, 2, MOVE, 10, 2, 0, 3, 10, into, 1, 0, 4,
                    P_RET, 0, into, 0, 5);
        }
        Doc.says("11 RET: register a.");
        Due.parts(vary(1, 1, LOAD, 0, LOAD, 0, RET, 0), 0, MOVE, 7, 0, 0, 0, MOVE, 8, 0, 0, 1, 11, 0, 8, 0, 2);
    }

    private static void fields() {
        Doc.says("12 FLD: d is FIELD a.");
        Doc.says("13 STF: FIELD d is register a.");
        for (int x = 0; x < 8; x++) {
            Doc.says("12 FLD: d is FIELD a.");
            TemplateForge f = vary(1, 1, LOAD, 0, FIELD, x, LOAD, 0, KEEP, x, RET, 0);
            Due.due("answer()", f.answer(), 3);
            Doc.says("13 STF: FIELD d is register a.");
            Due.due("field(" + x + ")", f.field(x), 4);
            Due.parts(f, 0, MOVE, 7, 0, 0, 0, 12, 8, x, 0, 1, MOVE, 9, 0, 0, 2, 13, x, 9, 0, 3, P_RET, 0, 8, 0, 4);
        }
    }

    private static void rows() {
        Doc.says("14 NEW: ROW d of register a.");
        for (int x = 0; x < 4; x++) {
            TemplateForge f = vary(1, 1, LOAD, 0, LOAD, 0, NEW, x, RET, 0);
            Due.due("size(" + x + ")", f.size(x), 4);
            Due.parts(f, 0, MOVE, 7, 0, 0, 0, MOVE, 8, 0, 0, 1, 14, x, 8, 0, 2, P_RET, 0, 7, 0, 3);
        }
        Doc.says("15 GET: d is item register b of ROW a.");
        for (int x = 0; x < 4; x++) {
            TemplateForge f = vary(1, 1, LOAD, 0, LOAD, 0, GET, x, RET, 0);
            Due.parts(f, 0, MOVE, 7, 0, 0, 0, MOVE, 8, 0, 0, 1, 15, 8, x, 8, 2, P_RET, 0, 8, 0, 3);
        }
        Doc.says("16 SET: item register a of ROW d is register b.");
        for (int x = 0; x < 4; x++) {
            TemplateForge f = vary(2, 2, LOAD, 0, LOAD, 0, LOAD, 1, SET, x, RET, 0);
            Due.parts(f, 0, MOVE, 7, 0, 0, 0, MOVE, 8, 0, 0, 1, MOVE, 9, 1, 0, 2, 16, x, 8, 9, 3, P_RET, 0, 7, 0, 4);
        }
    }

    private static void guards() {
        Doc.says("17 GARG: LOCAL d is to be a.");
        for (int x = 0; x < 3; x++) {
            Due.parts(same(3, 3, LOAD, x, RET, 0), 0, 17, x, 5 + x, 0, 0, LI, 7, 5 + x, 0, 1, P_RET, 0, 7, 0, 1);
        }
        Doc.says("18 GFLD: FIELD d is to be a.");
        for (int x = 0; x < 8; x++) {
            TemplateForge f = Due.with(0, 0, FIELD, x, RET, 0);
            f.keep(x, -9);
            Due.runs(f, 4, 0, 0, 0, 0, 0);
            Due.parts(f, 0, 18, x, -9, 0, 0, LI, 7, -9, 0, 1, P_RET, 0, 7, 0, 1);
        }
    }

    /** A METHOD whose CODE has PARTS of every op. */
    private static TemplateForge everyOp() {
        TemplateForge f = Due.with(1, 1, PUSH, 3, RET, 0);
        f.method(3, 5);
        Due.write(f, 1, LOAD, 0, STORE, 3, LOAD, 1, LOAD, 2, ADD, 0, LOAD, 1, SUB, 0, LOAD, 1, MUL, 0, LOAD, 1, DIV, 0,
                LOAD, 1, LESS, 0, LOAD, 1, SAME, 0, WHEN, 17, JUMP, 17, PUSH, 9, CALL, 0, KEEP, 6, FIELD, 6, NEW, 1,
                LOAD, 4, LOAD, 4, SET, 1, LOAD, 4, GET, 1, FIELD, 5, ADD, 0, RET, 0);
        Due.look(f, 1, 2, 0);
        for (int k = 1; k <= 4; k++) {
            Due.answers(f, 1, 5, k + 1, k + 2, 0);
        }
        return f;
    }

    private static void whatAPartHasNot() {
        Doc.says("What a PART has not is 0.");
        TemplateForge f = everyOp();
        boolean[] met = new boolean[19];
        for (int k = 0; k < f.of(1, 5); k++) {
            int op = f.part(1, k, 0);
            met[op] = true;
            boolean hasD = op != P_RET, hasA = op != JMP, hasB = op >= P_ADD && op <= P_SAME || op == P_GET
                    || op == P_SET;
            Due.due("d of an op " + op, hasD ? 0 : f.part(1, k, 1), 0);
            Due.due("a of an op " + op, hasA ? 0 : f.part(1, k, 2), 0);
            Due.due("b of an op " + op, hasB ? 0 : f.part(1, k, 3), 0);
        }
        for (int op = 0; op < 19; op++) {
            Due.due("PARTS of op " + op, met[op] ? 1 : 0, 1);
        }
    }

    private static void belongs() {
        Doc.says("Each belongs to an INSTRUCTION.");
        TemplateForge f = everyOp();
        int[] ops = {GARG, GFLD, LI, LI, MOVE, MOVE, P_ADD, MOVE, P_SUB, MOVE, P_MUL, MOVE, P_DIV, MOVE, P_LESS, MOVE,
            P_SAME, JZ, JMP, LI, P_CALL, GFLD, STF, FLD, P_NEW, MOVE, MOVE, P_SET, MOVE, P_GET, LI, P_ADD, P_RET};
        int[] of = {0, 0, 1, 0, 2, 3, 4, 5, 6, 7, 8, 9, 10, 11, 12, 13, 14, 15, 16, 18, 18, 18, 19, 20, 21, 22, 23, 24,
            25, 26, 28, 28, 29};
        int k = 0;
        Due.due("of(1, 5)", f.of(1, 5), ops.length - 1);
        for (int n = 0; n < ops.length; n++) {
            if (n == 3) {
                // LOAD of what is KNOWN has no PART
                continue;
            }
            Due.due("part(1, " + k + ", 0)", f.part(1, k, 0), ops[n]);
            Due.due("part(1, " + k + ", 4)", f.part(1, k, 4), of[n]);
            k++;
        }
    }

    private static void guardsFirst() {
        Doc.says("First, for INSTRUCTION 0: GARG of each ASSUMED ARG, then GFLD of each ASSUMED FIELD, by their "
                + "numbers.");
        // met in another order than their numbers'
        TemplateForge f = same(3, 3, FIELD, 6, LOAD, 2, ADD, 0, FIELD, 1, ADD, 0, LOAD, 0, ADD, 0, FIELD, 3, ADD, 0, RET,
                0);
        Due.parts(f, 0, GARG, 0, 5, 0, 0, GARG, 2, 7, 0, 0, GFLD, 1, 0, 0, 0, GFLD, 3, 0, 0, 0, GFLD, 6, 0, 0, 0, LI, 7,
                12, 0, 9, P_RET, 0, 7, 0, 9);
        // none, if none is ASSUMED
        Due.due("part(0, 0, 0)", vary(1, 1, LOAD, 0, RET, 0).part(0, 0, 0), MOVE);
    }

    private static void instructionByInstruction() {
        Doc.says("Then, INSTRUCTION by INSTRUCTION (but DEAD ones), with what is KNOWN of each LOCAL, each place of the "
                + "PILE:");
        TemplateForge f = same(0, 2, JUMP, 4, FIELD, 0, GET, 0, JUMP, 9, PUSH, 3, STORE, 1, LOAD, 1, LOAD, 1, ADD, 0,
                RET, 0, PUSH, 9, RET, 0);
        Due.parts(f, 0, JMP, 4, 0, 0, 0, LI, 1, 3, 0, 5, LI, 7, 6, 0, 9, P_RET, 0, 7, 0, 9);
    }

    private static void targets() {
        Doc.says("An INSTRUCTION to which some JUMP, WHEN goes (that is not DEAD) is a TARGET.");
        // of a JUMP: what is KNOWN is KNOWN no more at 1, at 3
        Due.parts(vary(0, 0, PUSH, 4, JUMP, 2, RET, 0), 0, LI, 7, 4, 0, 1, JMP, 2, 0, 0, 1, P_RET, 0, 7, 0, 2);
        Due.parts(same(0, 0, PUSH, 1, WHEN, 0, PUSH, 1, PUSH, 2, WHEN, 5, PUSH, 3, ADD, 0, RET, 0), 0, LI, 7, 1, 0, 4,
                LI, 8, 3, 0, 6, P_ADD, 7, 7, 8, 6, P_RET, 0, 7, 0, 7);
        // the same without that WHEN: 5 is none
        Due.parts(same(0, 0, PUSH, 1, WHEN, 0, PUSH, 1, PUSH, 2, POP, 5, PUSH, 3, ADD, 0, RET, 0), 0, LI, 7, 4, 0, 7,
                P_RET, 0, 7, 0, 7);
        // nor is it one of another METHOD's that was put into CODE ahead of it
        TemplateForge f = same(0, 0, PUSH, 1, WHEN, 2, PUSH, 3, JUMP, 4, RET, 0);
        Due.method(f, 0, 0, PUSH, 1, PUSH, 2, ADD, 0, PUSH, 4, ADD, 0, RET, 0);
        Due.runs(f, 4, 1, 0, 0, 0, 0);
        Due.parts(f, 1, LI, 7, 7, 0, 5, P_RET, 0, 7, 0, 5);
        // a DEAD one's X is none: neither JUMP's nor WHEN's
        Due.parts(same(0, 0, PUSH, 1, PUSH, 2, ADD, 0, RET, 0, JUMP, 2, WHEN, 1), 0, LI, 7, 3, 0, 3, P_RET, 0, 7, 0, 3);
    }

    private static void aheadOfTargets() {
        Doc.says("Ahead of one that the one ahead of it goes on to (no JUMP, RET): all places of the PILE that are KNOWN"
                + " are LAID (LI, the lowest first; they belong to the one ahead).");
        // ahead of 7: two that are KNOWN, around one that is not; all belong to 6
        TemplateForge f = vary(2, 2, PUSH, 9, LOAD, 1, PUSH, 8, LOAD, 0, WHEN, 7, PUSH, 1, POP, 0, ADD, 0, ADD, 0, RET,
                0);
        Due.parts(f, 0, MOVE, 8, 1, 0, 1, MOVE, 10, 0, 0, 3, LI, 7, 9, 0, 4, LI, 9, 8, 0, 4, JZ, 7, 10, 0, 4, P_ADD, 8,
                8, 9, 7, P_ADD, 7, 7, 8, 8, P_RET, 0, 7, 0, 9);
        f = vary(2, 2, LOAD, 0, WHEN, 7, PUSH, 9, LOAD, 1, PUSH, 8, POP, 0, JUMP, 9, PUSH, 7, PUSH, 6, ADD, 0, RET, 0);
        Due.parts(f, 0, MOVE, 7, 0, 0, 0, JZ, 7, 7, 0, 1, MOVE, 8, 1, 0, 3, LI, 7, 9, 0, 6, JMP, 9, 0, 0, 6, LI, 7, 7, 0,
                8, LI, 8, 6, 0, 8, P_ADD, 7, 7, 8, 9, P_RET, 0, 7, 0, 10);
        Due.answers(f, 0, 0, 4, 0, 13);
        Due.answers(f, 0, 1, 4, 0, 13);
        // behind a WHEN that has no PART, too
        Due.parts(same(0, 0, PUSH, 4, PUSH, 1, WHEN, 3, RET, 0), 0, LI, 7, 4, 0, 2, P_RET, 0, 7, 0, 3);
        // behind a RET, a JUMP none is LAID: what RET leaves is not gone on with
        f = vary(1, 1, LOAD, 0, WHEN, 5, PUSH, 1, PUSH, 2, RET, 0, PUSH, 3, RET, 0);
        Due.parts(f, 0, MOVE, 7, 0, 0, 0, JZ, 5, 7, 0, 1, LI, 8, 2, 0, 4, P_RET, 0, 8, 0, 4, LI, 7, 3, 0, 6, P_RET, 0, 7,
                0, 6);
        // nor behind a DEAD one, that is no JUMP, RET
        f = vary(1, 1, LOAD, 0, WHEN, 6, PUSH, 1, PUSH, 2, RET, 0, POP, 0, PUSH, 3, RET, 0);
        Due.parts(f, 0, MOVE, 7, 0, 0, 0, JZ, 6, 7, 0, 1, LI, 8, 2, 0, 4, P_RET, 0, 8, 0, 4, LI, 7, 3, 0, 7, P_RET, 0, 7,
                0, 7);
    }

    private static void knownAtTargets() {
        Doc.says("Then no place is KNOWN, and of LOCALS the ASSUMED ARGS alone.");
        // ARG 0 is ASSUMED, LOCAL 2 is KNOWN as 4 up to TARGET 6, and so is the place
        TemplateForge f = same(1, 3, PUSH, 4, STORE, 2, LOAD, 2, FIELD, 1, KEEP, 1, JUMP, 6, LOAD, 2, LOAD, 0, ADD, 0,
                ADD, 0, RET, 0);
        Due.parts(f, 0, GARG, 0, 5, 0, 0, LI, 2, 4, 0, 1, FLD, 8, 1, 0, 3, STF, 1, 8, 0, 4, LI, 7, 4, 0, 5, JMP, 6, 0, 0,
                5, MOVE, 8, 2, 0, 6, LI, 9, 5, 0, 8, P_ADD, 8, 8, 9, 8, P_ADD, 7, 7, 8, 9, P_RET, 0, 7, 0, 10);
        Due.due("answer()", f.answer(), 13);
        // what was KNOWN as not ahead of it is KNOWN again: an ARG that is ASSUMED is never STORED, so the same
        f = same(2, 2, LOAD, 0, JUMP, 2, LOAD, 0, ADD, 0, JUMP, 5, LOAD, 1, ADD, 0, RET, 0);
        Due.parts(f, 0, GARG, 0, 5, 0, 0, GARG, 1, 6, 0, 0, LI, 7, 5, 0, 1, JMP, 2, 0, 0, 1, LI, 8, 5, 0, 3, P_ADD, 7, 7,
                8, 3, JMP, 5, 0, 0, 4, LI, 8, 6, 0, 6, P_ADD, 7, 7, 8, 6, P_RET, 0, 7, 0, 7);
    }

    private static void firstBeginsSo() {
        Doc.says("(The first INSTRUCTION begins so, too.)");
        // ARG 0 is KNOWN; LOCAL 1 is not, though it is 0 in all calls
        TemplateForge f = same(1, 2, LOAD, 0, LOAD, 1, ADD, 0, RET, 0);
        Due.parts(f, 0, GARG, 0, 5, 0, 0, MOVE, 8, 1, 0, 1, LI, 7, 5, 0, 2, P_ADD, 7, 7, 8, 2, P_RET, 0, 7, 0, 3);
        // and it is one to which a JUMP goes: nothing is LAID ahead of it
        f = same(1, 2, LOAD, 0, WHEN, 3, JUMP, 0, LOAD, 1, RET, 0);
        Due.parts(f, 0, GARG, 0, 5, 0, 0, JMP, 0, 0, 0, 2, MOVE, 7, 1, 0, 3, P_RET, 0, 7, 0, 4);
        // what was KNOWN of the METHOD that was put into CODE ahead of it is not
        f = same(0, 2, PUSH, 3, STORE, 1, LOAD, 1, PUSH, 8, RET, 0);
        Due.method(f, 0, 2, LOAD, 1, RET, 0);
        Due.runs(f, 4, 1, 0, 0, 0, 0);
        Due.parts(f, 1, MOVE, 7, 1, 0, 0, P_RET, 0, 7, 0, 1);
    }

    private static void push() {
        Doc.says("PUSH: the place is KNOWN as X.");
        Due.parts(same(0, 0, PUSH, 7, PUSH, LEAST, POP, 0, RET, 0), 0, LI, 7, 7, 0, 3, P_RET, 0, 7, 0, 3);
    }

    private static void load() {
        Doc.says("LOAD: KNOWN, if the LOCAL is; else MOVE.");
        Due.parts(same(1, 1, LOAD, 0, RET, 0), 0, GARG, 0, 5, 0, 0, LI, 7, 5, 0, 1, P_RET, 0, 7, 0, 1);
        Due.parts(vary(1, 1, LOAD, 0, RET, 0), 0, MOVE, 7, 0, 0, 0, P_RET, 0, 7, 0, 1);
        Due.parts(vary(1, 2, PUSH, 4, STORE, 1, LOAD, 0, LOAD, 1, RET, 0), 0, LI, 1, 4, 0, 1, MOVE, 7, 0, 0, 2, LI, 8, 4,
                0, 4, P_RET, 0, 8, 0, 4);
    }

    private static void store() {
        Doc.says("STORE: of what is KNOWN LI to the LOCAL, which is KNOWN so then; else MOVE, and it is not.");
        TemplateForge f = vary(1, 2, PUSH, 3, STORE, 1, LOAD, 1, POP, 0, LOAD, 0, STORE, 1, LOAD, 1, POP, 0, PUSH, 4,
                STORE, 1, LOAD, 1, PUSH, 1, ADD, 0, RET, 0);
        Due.parts(f, 0, LI, 1, 3, 0, 1, MOVE, 7, 0, 0, 4, MOVE, 1, 7, 0, 5, MOVE, 7, 1, 0, 6, LI, 1, 4, 0, 9, LI, 7, 5,
                0, 13, P_RET, 0, 7, 0, 13);
        // the place is taken: it is not LAID by the JUMP
        Due.parts(same(0, 1, PUSH, 3, STORE, 0, JUMP, 2), 0, LI, 0, 3, 0, 1, JMP, 2, 0, 0, 2);
    }

    private static void addToSame() {
        Doc.says("ADD to SAME: if both are KNOWN");
        int[] ops = {ADD, SUB, MUL, DIV, LESS, SAME}, want = {-5, -9, -14, -3, 1, 0};
        for (int k = 0; k < 6; k++) {
            Due.parts(same(0, 0, PUSH, 1, PUSH, -7, PUSH, 2, ops[k], 0, RET, 0), 0, LI, 8, want[k], 0, 4, P_RET, 0, 8,
                    0, 4);
            // b's place is not KNOWN any more: the JUMP lays one place
            Due.parts(same(0, 0, PUSH, -7, PUSH, 2, ops[k], 0, JUMP, 4, RET, 0), 0, LI, 7, want[k], 0, 3, JMP, 4, 0, 0,
                    3, P_RET, 0, 7, 0, 4);
        }
        Doc.says("(of DIV: b not 0)");
        Due.parts(same(0, 0, PUSH, 3, PUSH, 0, DIV, 0, RET, 0), 0, LI, 7, 3, 0, 2, LI, 8, 0, 0, 2, P_DIV, 7, 7, 8, 2,
                P_RET, 0, 7, 0, 3);
        Due.parts(same(0, 0, PUSH, LEAST, PUSH, -1, DIV, 0, RET, 0), 0, LI, 7, LEAST, 0, 3, P_RET, 0, 7, 0, 3);
        Doc.says("the result is KNOWN;");
        Due.parts(same(0, 0, PUSH, 3, PUSH, 4, ADD, 0, PUSH, 5, MUL, 0, PUSH, 35, SAME, 0, WHEN, 10, PUSH, 6, RET, 0,
                PUSH, 7, RET, 0), 0, LI, 7, 6, 0, 9, P_RET, 0, 7, 0, 9, LI, 7, 7, 0, 11, P_RET, 0, 7, 0, 11);
        Doc.says("else what is KNOWN of them is LAID (a, then b), then the PART, into a's place.");
        for (int k = 0; k < 6; k++) {
            // b alone is KNOWN; a alone is; neither; what lies below is not LAID
            Due.parts(vary(1, 1, PUSH, 9, LOAD, 0, PUSH, 2, ops[k], 0, RET, 0), 0, MOVE, 8, 0, 0, 1, LI, 9, 2, 0, 3, 2 + k,
                    8, 8, 9, 3, P_RET, 0, 8, 0, 4);
            Due.parts(vary(1, 1, PUSH, 9, PUSH, 2, LOAD, 0, ops[k], 0, RET, 0), 0, MOVE, 9, 0, 0, 2, LI, 8, 2, 0, 3, 2 + k,
                    8, 8, 9, 3, P_RET, 0, 8, 0, 4);
            Due.parts(vary(1, 1, PUSH, 9, LOAD, 0, LOAD, 0, ops[k], 0, RET, 0), 0, MOVE, 8, 0, 0, 1, MOVE, 9, 0, 0, 2,
                    2 + k, 8, 8, 9, 3, P_RET, 0, 8, 0, 4);
        }
        // both are KNOWN, and the result can't be
        Due.parts(same(0, 0, PUSH, 9, PUSH, 3, PUSH, 0, DIV, 0, RET, 0), 0, LI, 8, 3, 0, 3, LI, 9, 0, 0, 3, P_DIV, 8, 8, 9,
                3, P_RET, 0, 8, 0, 4);
    }

    private static void jump() {
        Doc.says("JUMP: all KNOWN places are LAID, JMP.");
        TemplateForge f = vary(1, 2, PUSH, 1, STORE, 1, PUSH, 2, LOAD, 0, PUSH, 3, JUMP, 6, ADD, 0, ADD, 0, RET, 0);
        Due.parts(f, 0, LI, 1, 1, 0, 1, MOVE, 8, 0, 0, 3, LI, 7, 2, 0, 5, LI, 9, 3, 0, 5, JMP, 6, 0, 0, 5, P_ADD, 8, 8, 9,
                6, P_ADD, 7, 7, 8, 7, P_RET, 0, 7, 0, 8);
        // all eight
        f = same(0, 0, PUSH, 1, PUSH, 2, PUSH, 3, PUSH, 4, PUSH, 5, PUSH, 6, PUSH, 7, PUSH, 8, JUMP, 9, RET, 0);
        Due.parts(f, 0, LI, 7, 1, 0, 8, LI, 8, 2, 0, 8, LI, 9, 3, 0, 8, LI, 10, 4, 0, 8, LI, 11, 5, 0, 8, LI, 12, 6, 0, 8,
                LI, 13, 7, 0, 8, LI, 14, 8, 0, 8, JMP, 9, 0, 0, 8, P_RET, 0, 14, 0, 9);
        Due.due("answer()", f.answer(), 8);
    }

    private static void whenKnown() {
        Doc.says("WHEN: if c is KNOWN: all others that are KNOWN are LAID and JMP, if it is 0;");
        Due.parts(vary(1, 1, PUSH, 5, LOAD, 0, PUSH, 4, PUSH, 0, WHEN, 5, ADD, 0, ADD, 0, RET, 0), 0, MOVE, 8, 0, 0, 1,
                LI, 7, 5, 0, 4, LI, 9, 4, 0, 4, JMP, 5, 0, 0, 4, P_ADD, 8, 8, 9, 5, P_ADD, 7, 7, 8, 6, P_RET, 0, 7, 0,
                7);
        Doc.says("nothing, if not.");
        for (int c : new int[] {1, -1, LEAST, MOST}) {
            Due.parts(same(0, 0, PUSH, 5, PUSH, c, WHEN, 5, PUSH, 4, ADD, 0, RET, 0), 0, LI, 7, 9, 0, 4,
                    P_RET, 0, 7, 0, 5);
        }
    }

    private static void whenNot() {
        Doc.says("Else all KNOWN are LAID, JZ.");
        Due.parts(vary(1, 1, PUSH, 5, LOAD, 0, PUSH, 4, LOAD, 0, WHEN, 5, ADD, 0, ADD, 0, RET, 0), 0, MOVE, 8, 0, 0, 1,
                MOVE, 10, 0, 0, 3, LI, 7, 5, 0, 4, LI, 9, 4, 0, 4, JZ, 5, 10, 0, 4, P_ADD, 8, 8, 9, 5, P_ADD, 7, 7, 8, 6,
                P_RET, 0, 7, 0, 7);
    }

    private static void call() {
        Doc.says("CALL: all KNOWN places are LAID, CALL, then GFLD of each ASSUMED FIELD.");
        TemplateForge f = Due.with(2, 2, PUSH, 3, RET, 0);
        Due.method(f, 2, 3, PUSH, 4, STORE, 2, FIELD, 5, LOAD, 0, FIELD, 3, PUSH, 1, CALL, 0, LOAD, 2, ADD, 0, ADD, 0,
                RET, 0);
        for (int k = 0; k < 4; k++) {
            Due.answers(f, 1, k, 0, 0, 7 + k);
        }
        // the ARGS and what lies below them; LOCAL 2 stays KNOWN, the result is not
        Due.parts(f, 1, GFLD, 3, 0, 0, 0, GFLD, 5, 0, 0, 0, LI, 2, 4, 0, 1, MOVE, 8, 0, 0, 3, LI, 7, 0, 0, 6, LI, 9, 0,
                0, 6, LI, 10, 1, 0, 6, P_CALL, 9, 0, 0, 6, GFLD, 3, 0, 0, 6, GFLD, 5, 0, 0, 6, LI, 10, 4, 0, 8, P_ADD, 9,
                9, 10, 8, P_ADD, 8, 8, 9, 9, P_RET, 0, 8, 0, 10);
        // of ASSUMED ARGS there is none behind it; without an ASSUMED FIELD there is no GUARD behind it
        f = Due.with(0, 0, PUSH, 3, RET, 0);
        Due.method(f, 1, 1, CALL, 0, LOAD, 0, ADD, 0, RET, 0);
        Due.runs(f, 4, 1, 5, 0, 0, 0);
        Due.parts(f, 1, GARG, 0, 5, 0, 0, P_CALL, 7, 0, 0, 0, LI, 8, 5, 0, 2, P_ADD, 7, 7, 8, 2, P_RET, 0, 7, 0, 3);
    }

    private static void ret() {
        Doc.says("RET: v is LAID, if KNOWN, RET.");
        Due.parts(vary(1, 1, PUSH, 1, PUSH, 2, RET, 0), 0, LI, 8, 2, 0, 2, P_RET, 0, 8, 0, 2);
        Due.parts(vary(1, 1, PUSH, 1, LOAD, 0, RET, 0), 0, MOVE, 8, 0, 0, 1, P_RET, 0, 8, 0, 2);
    }

    private static void field() {
        Doc.says("FIELD: KNOWN, if it is ASSUMED; else FLD.");
        TemplateForge f = Due.with(0, 0, FIELD, 4, FIELD, 5, ADD, 0, RET, 0);
        for (int k = 0; k < 4; k++) {
            f.keep(5, k);
            f.run(0, 0, 0, 0);
        }
        Due.parts(f, 0, GFLD, 4, 0, 0, 0, FLD, 8, 5, 0, 1, LI, 7, 0, 0, 2, P_ADD, 7, 7, 8, 2, P_RET, 0, 7, 0, 3);
    }

    private static void keepAndNew() {
        Doc.says("KEEP, NEW: it is LAID, if KNOWN, then STF, NEW.");
        Due.parts(vary(1, 1, PUSH, 9, PUSH, 4, KEEP, 2, LOAD, 0, KEEP, 3, RET, 0), 0, LI, 8, 4, 0, 2, STF, 2, 8, 0, 2,
                MOVE, 8, 0, 0, 3, STF, 3, 8, 0, 4, LI, 7, 9, 0, 5, P_RET, 0, 7, 0, 5);
        Due.parts(vary(1, 1, PUSH, 9, PUSH, 4, NEW, 2, LOAD, 0, NEW, 3, RET, 0), 0, LI, 8, 4, 0, 2, P_NEW, 2, 8, 0, 2,
                MOVE, 8, 0, 0, 3, P_NEW, 3, 8, 0, 4, LI, 7, 9, 0, 5, P_RET, 0, 7, 0, 5);
    }

    private static void getAndSet() {
        Doc.says("GET: i likewise.");
        Due.parts(vary(1, 1, PUSH, 9, PUSH, 1, GET, 2, LOAD, 0, GET, 3, RET, 0), 0, LI, 8, 1, 0, 2, P_GET, 8, 2, 8, 2,
                MOVE, 9, 0, 0, 3, P_GET, 9, 3, 9, 4, P_RET, 0, 9, 0, 5);
        Doc.says("SET: i, then v likewise.");
        Due.parts(vary(1, 1, PUSH, 9, PUSH, 1, PUSH, 5, SET, 2, LOAD, 0, PUSH, 5, SET, 2, PUSH, 1, LOAD, 0, SET, 2, LOAD,
                0, LOAD, 0, SET, 2, RET, 0), 0, LI, 8, 1, 0, 3, LI, 9, 5, 0, 3, P_SET, 2, 8, 9, 3, MOVE, 8, 0, 0, 4, LI,
                9, 5, 0, 6, P_SET, 2, 8, 9, 6, MOVE, 9, 0, 0, 8, LI, 8, 1, 0, 9, P_SET, 2, 8, 9, 9, MOVE, 8, 0, 0, 10,
                MOVE, 9, 0, 0, 11, P_SET, 2, 8, 9, 12, LI, 7, 9, 0, 13, P_RET, 0, 7, 0, 13);
    }

    private static void dup() {
        Doc.says("DUP: KNOWN as v, or MOVE from v's place.");
        // v stays KNOWN, too: both are LAID by the JUMP
        Due.parts(same(0, 0, PUSH, 9, PUSH, 4, DUP, 0, JUMP, 4, RET, 0), 0, LI, 7, 9, 0, 3, LI, 8, 4, 0, 3, LI, 9, 4, 0,
                3, JMP, 4, 0, 0, 3, P_RET, 0, 9, 0, 4);
        Due.parts(vary(1, 1, PUSH, 9, LOAD, 0, DUP, 0, RET, 0), 0, MOVE, 8, 0, 0, 1, MOVE, 9, 8, 0, 2, P_RET, 0, 9, 0,
                3);
    }

    private static void pop() {
        Doc.says("POP: nothing.");
        Due.parts(vary(1, 1, LOAD, 0, POP, 0, PUSH, 4, POP, 0, PUSH, 5, RET, 0), 0, MOVE, 7, 0, 0, 0, LI, 7, 5, 0, 5,
                P_RET, 0, 7, 0, 5);
        // what it takes is not KNOWN any more: the JUMP lays nothing of it
        Due.parts(same(0, 0, PUSH, 4, POP, 0, JUMP, 2), 0, JMP, 2, 0, 0, 2);
        Due.parts(same(0, 0, PUSH, 4, PUSH, 5, POP, 0, JUMP, 4, RET, 0), 0, LI, 7, 4, 0, 3, JMP, 4, 0, 0, 3, P_RET, 0, 7,
                0, 4);
    }

    private static void laid() {
        Doc.says("(What is LAID is not KNOWN any more; it belongs to the INSTRUCTION that wants it.)");
        // LAID for the CALL at 3, the place is not LAID for the ADD at 4; LAID for the GET at 2, its item is not KNOWN
        TemplateForge f = Due.with(0, 0, PUSH, 3, RET, 0);
        Due.method(f, 0, 0, PUSH, 1, PUSH, 2, POP, 0, CALL, 0, ADD, 0, PUSH, 4, MUL, 0, RET, 0);
        Due.runs(f, 4, 1, 0, 0, 0, 0);
        Due.parts(f, 1, LI, 7, 1, 0, 3, P_CALL, 8, 0, 0, 3, P_ADD, 7, 7, 8, 4, LI, 8, 4, 0, 6, P_MUL, 7, 7, 8, 6, P_RET,
                0, 7, 0, 7);
        f = same(0, 0, PUSH, 2, NEW, 0, PUSH, 1, GET, 0, PUSH, 5, ADD, 0, RET, 0);
        Due.parts(f, 0, LI, 7, 2, 0, 1, P_NEW, 0, 7, 0, 1, LI, 7, 1, 0, 3, P_GET, 7, 0, 7, 3, LI, 8, 5, 0, 5, P_ADD, 7, 7,
                8, 5, P_RET, 0, 7, 0, 6);
        // LAID ahead of a WHEN that does not go, a place is not LAID again where RET wants it
        f = vary(1, 1, PUSH, 9, LOAD, 0, WHEN, 4, RET, 0, RET, 0);
        Due.parts(f, 0, MOVE, 8, 0, 0, 1, LI, 7, 9, 0, 2, JZ, 4, 8, 0, 2, P_RET, 0, 7, 0, 3, P_RET, 0, 7, 0, 4);
        // a LOCAL that is KNOWN is not LAID
        f = same(0, 1, PUSH, 3, STORE, 0, LOAD, 0, POP, 0, LOAD, 0, LOAD, 0, ADD, 0, JUMP, 8, RET, 0);
        Due.parts(f, 0, LI, 0, 3, 0, 1, LI, 7, 6, 0, 7, JMP, 8, 0, 0, 7, P_RET, 0, 7, 0, 8);
    }
}
