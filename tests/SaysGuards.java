/** Terms, 3: GUARDS that FAIL, a test for each of the document's words. */
final class SaysGuards implements Ops {
    private SaysGuards() {
    }

    static void all() {
        Doc.section("A GUARD (GARG, GFLD)", "Refusals,");
        failing();
        thrownAway();
        othersGoOn();
        olderLeavesNewer();
        anew();
        varies();
        atZero();
        atTheNext();
        locals();
        pile();
    }

    private static void failing() {
        Doc.says("A GUARD (GARG, GFLD) that is not so FAILS:");
        TemplateForge f = Due.with(2, 2, LOAD, 0, LOAD, 1, ADD, 0, FIELD, 7, ADD, 0, RET, 0);
        Due.runs(f, 4, 0, 5, LEAST, 0, 0);
        Due.answers(f, 0, 5, LEAST, 0, LEAST + 5);
        Due.due("of(0, 3) when all are so", f.of(0, 3), 0);
        Due.answers(f, 0, 5, MOST, 0, LEAST + 4);
        Due.due("of(0, 3) when an ARG is not", f.of(0, 3), 1);
        Due.runs(f, 4, 0, 5, LEAST, 0, 0);
        f.keep(7, -1);
        Due.answers(f, 0, 5, LEAST, 0, LEAST + 4);
        Due.due("of(0, 3) when a FIELD is not", f.of(0, 3), 2);
        for (int v : new int[] {LEAST, -1, 0, 1, MOST}) {
            for (int x = 0; x < 8; x++) {
                f = Due.with(0, 0, FIELD, x, RET, 0);
                Due.runs(f, 4, 0, 0, 0, 0, 0);
                f.keep(x, v);
                Due.answers(f, 0, 0, 0, 0, v);
                Due.due("of(0, 3) when FIELD " + x + " is " + v, f.of(0, 3), v == 0 ? 0 : 1);
            }
            for (int x = 0; x < 3; x++) {
                f = Due.with(3, 3, LOAD, x, RET, 0);
                Due.runs(f, 4, 0, 0, 0, 0, 0);
                Due.answers(f, 0, x == 0 ? v : 9, x == 1 ? v : 9, x == 2 ? v : 9, v);
                Due.due("of(0, 3) when ARG " + x + " is " + v, f.of(0, 3), v == 0 ? 0 : 1);
            }
        }
        // the first alone, ARGS ahead of FIELDS, when several are not so
        f = Due.with(2, 2, LOAD, 0, LOAD, 1, ADD, 0, FIELD, 7, ADD, 0, RET, 0);
        Due.runs(f, 4, 0, 5, 6, 0, 0);
        f.keep(7, 1);
        Due.answers(f, 0, 7, 8, 0, 16);
        Due.due("count(5)", f.count(5), 1);
        Due.due("varies(0, 0)", f.varies(0, 0), 1);
        Due.due("varies(0, 1)", f.varies(0, 1), 0);
        Due.due("varies(0, 17)", f.varies(0, 17), 0);
    }

    private static void thrownAway() {
        Doc.says("if the call runs the CODE that the METHOD has now, that is thrown away");
        TemplateForge f = Due.with(1, 1, LOAD, 0, RET, 0);
        Due.runs(f, 4, 0, 5, 0, 0, 0);
        Due.due("of(0, 0)", f.of(0, 0), 1);
        Due.answers(f, 0, 6, 0, 0, 6);
        Due.due("of(0, 0) behind it", f.of(0, 0), 0);
        Due.answers(f, 0, 5, 0, 0, 5);
        Due.due("count(4)", f.count(4), 0);
        // it is the latest CODE all the same
        Due.due("of(0, 5)", f.of(0, 5), 3);
        Due.due("of(0, 2)", f.of(0, 2), 1);
    }

    /** METHOD 0 lets FIELD 1 be what FIELD 2 is. METHOD 1 goes down by its ARG, then calls METHOD 0. */
    private static TemplateForge tower() {
        TemplateForge f = Due.with(0, 0, FIELD, 2, KEEP, 1, PUSH, 0, RET, 0);
        Due.method(f, 1, 1, LOAD, 0, WHEN, 9, LOAD, 0, PUSH, 1, SUB, 0, CALL, 1, FIELD, 1, ADD, 0, RET, 0, CALL, 0,
                FIELD, 1, ADD, 0, RET, 0);
        return f;
    }

    private static void othersGoOn() {
        Doc.says("(other calls that run it go on in it, up to a GUARD that FAILS of their own),");
        TemplateForge f = tower();
        Due.runs(f, 2, 1, 3, 0, 0, 0);
        Due.due("of(1, 4)", f.of(1, 4), 5);
        f.keep(2, 6);
        // all four run CODE; each has a GUARD of its own that FAILS
        Due.answers(f, 1, 3, 0, 0, 24);
        Due.due("count(4)", f.count(4), 4);
        Due.due("count(5) of METHOD 1 and METHOD 0", f.count(5), 4);
        Due.due("of(1, 3)", f.of(1, 3), 4);
        goOnInOld();
    }

    /** Two calls are open in one CODE: the inner one FAILS at its head, the outer one's GUARDS are so. */
    private static void goOnInOld() {
        TemplateForge f = new TemplateForge();
        f.method(1, 1);
        f.method(1, 1);
        // METHOD 0 hands METHOD 1 its ARG; METHOD 1 calls METHOD 0 with 9, if FIELD 0 is 0, having made it 1
        Due.write(f, 0, LOAD, 0, CALL, 1, LOAD, 0, ADD, 0, RET, 0);
        Due.write(f, 1, FIELD, 0, WHEN, 4, PUSH, 0, RET, 0, PUSH, 1, KEEP, 0, PUSH, 9, CALL, 0, RET, 0);
        Due.look(f, 0, 2, 0);
        Due.look(f, 1, 1, 0);
        f.keep(0, 1);
        Due.runs(f, 4, 0, 5, 0, 0, 0);
        Due.due("of(0, 0)", f.of(0, 0), 1);
        f.keep(0, 0);
        Due.answers(f, 0, 5, 0, 0, 9 + 5);
        Due.due("of(0, 3): the inner call alone", f.of(0, 3), 1);
        Due.due("of(0, 4): both began in CODE", f.of(0, 4), 3);
        Due.due("of(0, 0)", f.of(0, 0), 0);
        Due.due("of(0, 1)", f.of(0, 1), 0);
    }

    private static void olderLeavesNewer() {
        Doc.says("if the call runs the CODE that the METHOD has now,");
        // METHOD 1 with 1: calls METHOD 0 by itself with 0, then itself with 2 four times; with 2: FIELD 1 alone
        TemplateForge f = Due.with(0, 0, FIELD, 2, KEEP, 1, PUSH, 0, RET, 0);
        Due.method(f, 1, 1, LOAD, 0, PUSH, 2, LESS, 0, WHEN, 23, LOAD, 0, WHEN, 9, PUSH, 0, CALL, 1, JUMP, 22, CALL, 0,
                PUSH, 2, CALL, 1, POP, 0, PUSH, 2, CALL, 1, POP, 0, PUSH, 2, CALL, 1, POP, 0, PUSH, 2, CALL, 1, POP, 0,
                POP, 0, FIELD, 1, RET, 0);
        f.run(1, 2, 0, 0);
        f.run(1, 3, 0, 0);
        f.run(1, 2, 0, 0);
        Due.answers(f, 1, 1, 0, 0, 0);
        Due.due("of(1, 2)", f.of(1, 2), 1);
        f.keep(2, 6);
        Due.answers(f, 1, 1, 0, 0, 6);
        // the outer call's older CODE FAILED when newer CODE was there: that stays, and what it had counted
        Due.due("of(1, 0)", f.of(1, 0), 1);
        Due.due("of(1, 1)", f.of(1, 1), 3);
        Due.due("of(1, 2)", f.of(1, 2), 2);
        Due.due("of(1, 3)", f.of(1, 3), 2);
        Due.due("count(5)", f.count(5), 2);
        // and where none is there, what was counted since stays
        f = tower();
        Due.method(f, 1, 1, LOAD, 0, CALL, 1, RET, 0);
        Due.runs(f, 2, 1, 3, 0, 0, 0);
        f.keep(2, 6);
        Due.answers(f, 1, 1, 0, 0, 12);
        Due.due("of(1, 1)", f.of(1, 1), 0);
        Due.due("of(1, 3)", f.of(1, 3), 2);
    }

    private static void anew() {
        Doc.says("and the METHOD begins to count anew from 0, remembering nothing;");
        TemplateForge f = Due.with(2, 2, LOAD, 0, LOAD, 1, ADD, 0, RET, 0);
        Due.runs(f, 4, 0, 5, 6, 0, 0);
        Due.answers(f, 0, 5, 7, 0, 12);
        Due.due("of(0, 1): that call is not counted", f.of(0, 1), 0);
        for (int k = 1; k <= 3; k++) {
            // ARG 0 was 5 when it was remembered; now it is 8
            Due.answers(f, 0, 8, k, 0, 8 + k);
            Due.due("of(0, 1)", f.of(0, 1), k);
            Due.due("of(0, 0)", f.of(0, 0), 0);
        }
        Due.answers(f, 0, 8, 4, 0, 12);
        Due.due("of(0, 0)", f.of(0, 0), 1);
        Due.parts(f, 0, GARG, 0, 8, 0, 0, MOVE, 8, 1, 0, 1, LI, 7, 8, 0, 2, P_ADD, 7, 7, 8, 2, P_RET, 0, 7, 0, 3);
    }

    private static void varies() {
        Doc.says("what was assumed so (that ARG, FIELD) VARIES in it from then on;");
        for (int x = 0; x < 3; x++) {
            TemplateForge f = Due.with(3, 3, LOAD, 0, LOAD, 1, ADD, 0, LOAD, 2, ADD, 0, RET, 0);
            Due.method(f, 3, 3, LOAD, 0, LOAD, 1, ADD, 0, LOAD, 2, ADD, 0, RET, 0);
            Due.runs(f, 4, 0, 5, 5, 5, 0);
            Due.runs(f, 4, 1, 5, 5, 5, 0);
            Due.runs(f, 1, 0, x == 0 ? 6 : 5, x == 1 ? 6 : 5, x == 2 ? 6 : 5, 0);
            Due.runs(f, 8, 0, 5, 5, 5, 0);
            for (int y = 0; y < 3; y++) {
                Due.due("varies(0, " + y + ")", f.varies(0, y), x == y ? 1 : 0);
                Due.due("varies(1, " + y + ") of another METHOD", f.varies(1, y), 0);
            }
            Due.due("GUARDS left", f.part(0, 2, 0) == GARG ? 1 : 0, 0);
            Due.due("GUARDS left", f.part(0, 1, 0), GARG);
        }
        for (int x = 0; x < 8; x++) {
            TemplateForge f = Due.with(0, 0, FIELD, x, RET, 0);
            Due.runs(f, 4, 0, 0, 0, 0, 0);
            f.keep(x, 1);
            Due.runs(f, 5, 0, 0, 0, 0, 0);
            for (int y = 0; y < 8; y++) {
                Due.due("varies(0, " + (10 + y) + ")", f.varies(0, 10 + y), x == y ? 1 : 0);
            }
            Due.parts(f, 0, FLD, 7, x, 0, 0, P_RET, 0, 7, 0, 1);
        }
        olderVaries();
    }

    /** The inner call FAILS by FIELD 1; the outer one, in CODE that is thrown away by then, by FIELD 2. */
    private static void olderVaries() {
        TemplateForge f = new TemplateForge();
        f.method(0, 0);
        f.method(1, 1);
        f.method(0, 0);
        Due.write(f, 0, FIELD, 4, KEEP, 1, PUSH, 0, RET, 0);
        Due.write(f, 1, LOAD, 0, WHEN, 5, PUSH, 0, CALL, 1, JUMP, 8, CALL, 0, POP, 0, CALL, 2, FIELD, 1, ADD, 0, FIELD,
                2, ADD, 0, RET, 0);
        Due.write(f, 2, PUSH, 0, KEEP, 1, FIELD, 5, KEEP, 2, PUSH, 0, RET, 0);
        for (int m = 0; m < 3; m++) {
            Due.look(f, m, m == 1 ? 2 : 1, 0);
        }
        Due.runs(f, 3, 1, 1, 0, 0, 0);
        Due.due("of(1, 3)", f.of(1, 3), 0);
        f.keep(4, 7);
        f.keep(5, 8);
        Due.answers(f, 1, 1, 0, 0, 16);
        Due.due("of(1, 3)", f.of(1, 3), 2);
        Due.due("varies(1, 11)", f.varies(1, 11), 1);
        Due.due("varies(1, 12)", f.varies(1, 12), 1);
        Due.due("of(1, 0)", f.of(1, 0), 0);
    }

    private static void atZero() {
        Doc.says("the call goes on by INSTRUCTIONS: at INSTRUCTION 0,");
        // what comes of it shows INSTRUCTION 0, and that it is gone through once
        TemplateForge f = Due.with(1, 1, FIELD, 0, PUSH, 1, ADD, 0, KEEP, 0, LOAD, 0, FIELD, 1, ADD, 0, RET, 0);
        Due.runs(f, 4, 0, 5, 0, 0, 0);
        Due.answers(f, 0, 6, 0, 0, 6);
        Due.due("field(0)", f.field(0), 5);
        Due.due("count(2): no STEP", f.count(2), 1);
        Due.due("count(3): no call", f.count(3), 1);
        Due.due("count(4)", f.count(4), 1);
        Due.runs(f, 4, 0, 5, 0, 0, 0);
        f.keep(1, 3);
        Due.answers(f, 0, 5, 0, 0, 8);
        Due.due("field(0)", f.field(0), 10);
        // by INSTRUCTIONS: what was thrown away is looked at no more, though FIELD 2 is not so behind a CALL
        f = Due.with(0, 0, FIELD, 3, KEEP, 2, PUSH, 0, RET, 0);
        Due.method(f, 1, 1, LOAD, 0, CALL, 0, ADD, 0, FIELD, 2, ADD, 0, RET, 0);
        Due.runs(f, 4, 1, 5, 0, 0, 0);
        f.keep(3, 9);
        Due.answers(f, 1, 6, 0, 0, 15);
        Due.due("of(1, 3)", f.of(1, 3), 1);
        Due.due("varies(1, 12)", f.varies(1, 12), 0);
    }

    private static void atTheNext() {
        Doc.says("or, of one behind a CALL, at the next one,");
        // METHOD 0 counts its calls in FIELD 3; METHOD 1 calls it at INSTRUCTION 0 and at 2
        for (int at = 0; at < 2; at++) {
            TemplateForge f = Due.with(0, 0, FIELD, 3, PUSH, 1, ADD, 0, KEEP, 3, FIELD, 2, KEEP, 1, PUSH, 5, RET, 0);
            if (at == 0) {
                Due.method(f, 0, 0, CALL, 0, FIELD, 1, ADD, 0, RET, 0);
            } else {
                Due.method(f, 0, 0, PUSH, 0, POP, 0, CALL, 0, FIELD, 1, ADD, 0, RET, 0);
            }
            Due.runs(f, 4, 1, 0, 0, 0, 0);
            Due.due("field(3)", f.field(3), 4);
            f.keep(2, 40);
            Due.answers(f, 1, 0, 0, 0, 45);
            Due.due("field(3): METHOD 0 was called once more", f.field(3), 5);
            Due.due("count(3)", f.count(3), 2);
            Due.due("of(1, 3)", f.of(1, 3), 1);
            Due.due("varies(1, 11)", f.varies(1, 11), 1);
            Due.due("of(1, 0)", f.of(1, 0), 0);
        }
        // the next one is a TARGET, and the PILE below is not empty: LI for it come behind the GUARD
        TemplateForge f = Due.with(0, 0, FIELD, 2, KEEP, 1, PUSH, 5, RET, 0);
        Due.method(f, 1, 1, PUSH, 100, LOAD, 0, WHEN, 5, PUSH, 7, JUMP, 6, CALL, 0, FIELD, 1, ADD, 0, ADD, 0, RET, 0);
        for (int a : new int[] {0, 1, 0, 0}) {
            Due.answers(f, 1, a, 0, 0, a == 0 ? 105 : 107);
        }
        f.keep(2, 40);
        Due.answers(f, 1, 0, 0, 0, 145);
        Due.due("varies(1, 11)", f.varies(1, 11), 1);
    }

    /** METHOD 0 lets FIELD 1 be FIELD 2, and has one ARG; METHOD 1 begins with that PILE and those LOCALS. */
    private static void locals() {
        Doc.says("with LOCALS as in registers 0 to 6,");
        TemplateForge f = Due.with(0, 0, FIELD, 2, KEEP, 1, PUSH, 1, RET, 0);
        int m = f.method(3, 6);
        for (int k = 3; k < 6; k++) {
            Due.write(f, m, PUSH, 1 << k, STORE, k);
        }
        // LOCAL 1 is stored anew, of what is not KNOWN
        Due.write(f, m, LOAD, 1, PUSH, 1, ADD, 0, STORE, 1, FIELD, 1, POP, 0, CALL, 0);
        for (int k = 0; k < 6; k++) {
            Due.write(f, m, PUSH, 10, MUL, 0, LOAD, k, ADD, 0);
        }
        Due.write(f, m, RET, 0);
        Due.look(f, m, 2, 0);
        int want = 1;
        for (int v : new int[] {1, 3, 3, 8, 16, 32}) {
            want = want * 10 + v;
        }
        for (int k = 0; k < 4; k++) {
            Due.answers(f, m, 1, 2, 3, want);
        }
        f.keep(2, 1);
        Due.answers(f, m, 1, 2, 3, want);
        Due.due("of(m, 3)", f.of(m, 3), 1);
        // at INSTRUCTION 0: the ARGS, and 0
        f = Due.with(2, 3, LOAD, 0, PUSH, 10, MUL, 0, LOAD, 1, ADD, 0, PUSH, 10, MUL, 0, LOAD, 2, ADD, 0, PUSH, 9,
                STORE, 2, RET, 0);
        Due.runs(f, 4, 0, 1, 2, 0, 0);
        Due.answers(f, 0, 3, 4, 5, 340);
        Due.due("of(0, 3)", f.of(0, 3), 1);
    }

    private static void pile() {
        Doc.says("the PILE as in registers from 7 on.");
        for (int below = 0; below <= 7; below++) {
            TemplateForge f = Due.with(0, 0, FIELD, 2, KEEP, 1, PUSH, 1, RET, 0);
            int m = f.method(1, 1);
            Due.write(f, m, FIELD, 1, POP, 0);
            int want = 1;
            // KNOWN ones, and one that is not: the ARG
            for (int k = 0; k < below; k++) {
                Due.write(f, m, k == 2 ? LOAD : PUSH, k == 2 ? 0 : 10 + k);
            }
            Due.write(f, m, CALL, 0);
            for (int k = below - 1; k >= 0; k--) {
                Due.write(f, m, SUB, 0);
                want = (k == 2 ? 99 : 10 + k) - want;
            }
            Due.write(f, m, RET, 0);
            Due.look(f, m, below + 1, 0);
            for (int k = 0; k < 4; k++) {
                f.run(m, k, 0, 0);
            }
            Due.answers(f, m, 99, 0, 0, want);
            f.keep(2, 1);
            Due.answers(f, m, 99, 0, 0, want);
            Due.due("of(m, 3)", f.of(m, 3), 1);
        }
    }
}
