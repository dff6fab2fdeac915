/** Promises 11 to 19, a test for each of the document's words. */
final class SaysAnswers implements Ops {
    private SaysAnswers() {
    }

    static void all() {
        run();
        runRefusals();
        answer();
        trap();
        ofCode();
        ofProgram();
        part();
        varies();
        depth();
        count();
        digestOfData();
        digestOfMethods();
    }

    private static void run() {
        Doc.promise(11);
        Doc.says("A METHOD is run with ARGS a, b, c (as many as it has):");
        int[] want = {0, 700, 780, 789};
        for (int args = 0; args <= 3; args++) {
            TemplateForge f = Due.with(args, 3, LOAD, 0, PUSH, 100, MUL, 0, LOAD, 1, PUSH, 10, MUL, 0, ADD, 0, LOAD, 2,
                    ADD, 0, RET, 0);
            for (int k = 0; k < 5; k++) {
                Due.answers(f, 0, 7, 8, 9, want[args]);
            }
        }
        Doc.says("0 it returned, 1 by a TRAP, 3 SPENT.");
        // with 0 a TRAP, with 1 it goes round for ever, else it returns
        TemplateForge f = Due.with(1, 1, PUSH, 8, LOAD, 0, DIV, 0, PUSH, 8, SAME, 0, WHEN, 7, JUMP, 6, PUSH, 4, RET, 0);
        for (int k = 0; k < 5; k++) {
            Due.runs(f, 1, 0, 0, 0, 0, 1);
            Due.runs(f, 1, 0, 1, 0, 0, 3);
            Due.runs(f, 1, 0, 2, 0, 0, 0);
        }
        // what it returned is not what run() answers
        f = Due.with(1, 1, LOAD, 0, RET, 0);
        for (int v : new int[] {1, 3, -2, -3, -4, LEAST}) {
            Due.answers(f, 0, v, 0, 0, v);
        }
    }

    private static void runRefusals() {
        Doc.says("BAD: no METHOD;");
        TemplateForge f = new TemplateForge();
        Due.due("run(0)", f.run(0, 0, 0, 0), BAD);
        Due.method(f, 0, 0, PUSH, 1, RET, 0);
        for (int m : new int[] {-1, 1, 7, 8, LEAST, MOST}) {
            Due.due("run(" + m + ")", f.run(m, 0, 0, 0), BAD);
        }
        Doc.says("STATE: some METHOD was not looked over rightly;");
        f = new TemplateForge();
        f.method(0, 0);
        Due.due("run of one without INSTRUCTIONS", f.run(0, 0, 0, 0), STATE);
        Due.write(f, 0, PUSH, 1);
        Due.due("run ahead of look()", f.run(0, 0, 0, 0), STATE);
        Due.look(f, 0, -100, 5);
        Due.due("run of one with a FAULT", f.run(0, 0, 0, 0), STATE);
        Due.write(f, 0, RET, 0);
        Due.due("run ahead of another look()", f.run(0, 0, 0, 0), STATE);
        Due.look(f, 0, 1, 0);
        Due.answers(f, 0, 0, 0, 0, 1);
        // another one, that is not called: the last, and one ahead
        f.method(0, 0);
        Due.due("run", f.run(0, 0, 0, 0), STATE);
        Due.method(f, 0, 0, PUSH, 3, RET, 0);
        Due.due("run", f.run(0, 0, 0, 0), STATE);
        Due.due("run", f.run(2, 0, 0, 0), STATE);
        Due.write(f, 1, JUMP, 0);
        Due.look(f, 1, 0, 0);
        Due.answers(f, 2, 0, 0, 0, 3);
        Doc.says("FULL: 80 runs went ahead of it.");
        f = Due.with(1, 1, PUSH, 6, LOAD, 0, DIV, 0, RET, 0);
        for (int k = 0; k < 80; k++) {
            // those that a TRAP ends are runs, those that are refused are none
            Due.runs(f, 1, 0, k % 3, 0, 0, k % 3 == 0 ? 1 : 0);
            Due.due("run(1)", f.run(1, 0, 0, 0), BAD);
        }
        Due.due("run 81", f.run(0, 1, 0, 0), FULL);
        Due.due("run 82", f.run(0, 1, 0, 0), FULL);
        Due.due("count(1)", f.count(1), 80);
    }

    private static void answer() {
        Doc.promise(12);
        Doc.says("What the latest run returned;");
        TemplateForge f = Due.with(1, 1, PUSH, 8, LOAD, 0, DIV, 0, PUSH, 8, SAME, 0, WHEN, 7, JUMP, 6, PUSH, 4, RET, 0);
        Due.method(f, 1, 1, LOAD, 0, RET, 0);
        for (int v : new int[] {7, -7, LEAST, MOST, 0}) {
            Due.answers(f, 1, v, 0, 0, v);
            f.run(9, 5, 0, 0);
            Due.due("answer() after a run that was refused", f.answer(), v);
        }
        Doc.says("0 if it did not, or there was none.");
        Due.due("answer() of a new one", new TemplateForge().answer(), 0);
        for (int k = 0; k < 5; k++) {
            Due.answers(f, 1, 9, 0, 0, 9);
            Due.runs(f, 1, 0, 0, 0, 0, 1);
            Due.due("answer() after a TRAP", f.answer(), 0);
            Due.answers(f, 1, 9, 0, 0, 9);
            Due.runs(f, 1, 0, 1, 0, 0, 3);
            Due.due("answer() after SPENT", f.answer(), 0);
        }
    }

    private static void trap() {
        Doc.promise(13);
        Doc.says("Of the TRAP of the latest run: 0 its number, 1 the METHOD, 2 the INSTRUCTION, 3 how many calls were "
                + "open.");
        TemplateForge f = Due.with(1, 1, PUSH, 6, LOAD, 0, DIV, 0, RET, 0);
        Due.method(f, 1, 1, LOAD, 0, CALL, 0, GET, 2, RET, 0);
        Due.method(f, 1, 1, PUSH, 0, POP, 0, PUSH, 1, LOAD, 0, CALL, 1, SET, 3, PUSH, 1, NEW, 2, PUSH, 0, RET, 0);
        for (int k = 0; k < 5; k++) {
            Due.runs(f, 1, 0, 0, 0, 0, 1);
            Due.trap(f, 1, 0, 2, 1);
            Due.runs(f, 1, 1, 0, 0, 0, 1);
            Due.trap(f, 1, 0, 2, 2);
            Due.runs(f, 1, 2, 0, 0, 0, 1);
            Due.trap(f, 1, 0, 2, 3);
            Due.runs(f, 1, 2, 1, 0, 0, 1);
            Due.trap(f, 2, 1, 2, 2);
            Due.runs(f, 1, 1, 1, 0, 0, 1);
            Due.trap(f, 2, 1, 2, 1);
        }
        f.run(9, 0, 0, 0);
        Due.trap(f, 2, 1, 2, 1);
        Doc.says("0 each without.");
        Due.trap(new TemplateForge(), 0, 0, 0, 0);
        Due.runs(f, 1, 0, 6, 0, 0, 0);
        for (int what = 0; what <= 3; what++) {
            Due.due("trap(" + what + ") of a run without", f.trap(what), 0);
        }
        f = Due.with(1, 1, PUSH, 6, LOAD, 0, DIV, 0, RET, 0);
        Due.method(f, 0, 0, JUMP, 0);
        Due.runs(f, 1, 0, 0, 0, 0, 1);
        Due.runs(f, 1, 1, 0, 0, 0, 3);
        Due.trap(f, 0, 0, 0, 0);
        Doc.says("BAD.");
        for (int bad : new int[] {-1, 4, LEAST, MOST}) {
            Due.due("trap(" + bad + ")", f.trap(bad), BAD);
            Due.due("trap(" + bad + ") of a new one", new TemplateForge().trap(bad), BAD);
        }
    }

    private static void dueOf(TemplateForge f, int method, int what, int... want) {
        for (int k = 0; k < want.length; k++) {
            f.run(method, k < 6 || k > 10 ? 5 : 6, 0, 0);
            Due.due("of(" + method + ", " + what + ") after run " + (k + 1), f.of(method, what), want[k]);
        }
    }

    /** Run 7, with 6 behind six with 5, FAILS; runs 8 to 11 are with 6, then with 5 again. */
    private static void ofCode() {
        Doc.promise(14);
        Doc.says("Of a METHOD: 0 whether it has CODE,");
        Due.due("of(0, 0) at first", Due.written(0, 0).of(0, 0), 0);
        dueOf(Due.with(1, 1, LOAD, 0, RET, 0), 0, 0, 0, 0, 0, 1, 1, 1, 0, 0, 0, 0, 1, 1);
        Doc.says("1 calls it has counted (since it begun anew),");
        Due.due("of(0, 1) at first", Due.written(0, 0).of(0, 1), 0);
        dueOf(Due.with(1, 1, LOAD, 0, RET, 0), 0, 1, 1, 2, 3, 3, 3, 3, 0, 1, 2, 3, 3, 3);
        Doc.says("2 how often it was put into CODE,");
        Due.due("of(0, 2) at first", Due.written(0, 0).of(0, 2), 0);
        dueOf(Due.with(1, 1, LOAD, 0, RET, 0), 0, 2, 0, 0, 0, 1, 1, 1, 1, 1, 1, 1, 2, 2);
        Doc.says("3 how many GUARDS of it FAILED,");
        Due.due("of(0, 3) at first", Due.written(0, 0).of(0, 3), 0);
        dueOf(Due.with(1, 1, LOAD, 0, RET, 0), 0, 3, 0, 0, 0, 0, 0, 0, 1, 1, 1, 1, 1, 1);
        Doc.says("4 how many calls of it ran CODE (from their begin),");
        Due.due("of(0, 4) at first", Due.written(0, 0).of(0, 4), 0);
        dueOf(Due.with(1, 1, LOAD, 0, RET, 0), 0, 4, 0, 0, 0, 1, 2, 3, 4, 4, 4, 4, 5, 6);
        // one that was open by INSTRUCTIONS when its METHOD was put into CODE is none of them
        TemplateForge f = Due.with(1, 1, LOAD, 0, WHEN, 7, LOAD, 0, PUSH, -1, ADD, 0, CALL, 0, RET, 0, PUSH, 5, RET, 0);
        Due.answers(f, 0, 4, 0, 0, 5);
        Due.due("of(0, 4)", f.of(0, 4), 2);
        Doc.says("5 PARTS of the latest CODE it had (0 before any),");
        Due.due("of(0, 5) at first", Due.written(0, 0).of(0, 5), 0);
        dueOf(Due.with(1, 1, LOAD, 0, RET, 0), 0, 5, 0, 0, 0, 3, 3, 3, 3, 3, 3, 3, 2, 2);
    }

    private static void ofProgram() {
        Doc.says("6 INSTRUCTIONS,");
        TemplateForge f = new TemplateForge();
        f.method(0, 0);
        for (int i = 0; i < 60; i++) {
            Due.due("of(0, 6)", f.of(0, 6), i);
            f.write(0, PUSH, 0);
        }
        Due.due("of(0, 6)", f.of(0, 6), 60);
        f.write(0, PUSH, 0);
        Due.due("of(0, 6) after FULL", f.of(0, 6), 60);
        Doc.says("7 the greatest depth (NONE: not looked over rightly).");
        f = Due.written(0, 0, PUSH, 1, PUSH, 2, PUSH, 3);
        Due.due("of(0, 7) ahead of look()", f.of(0, 7), NONE);
        Due.look(f, 0, -102, 5);
        Due.due("of(0, 7) with a FAULT", f.of(0, 7), NONE);
        Due.write(f, 0, POP, 0, RET, 0);
        Due.due("of(0, 7) ahead of another look()", f.of(0, 7), NONE);
        Due.look(f, 0, 3, 0);
        Due.due("of(0, 7)", f.of(0, 7), 3);
        Due.due("of(0, 7) of none filled", Due.with(0, 0, JUMP, 0).of(0, 7), 0);
        Doc.says("BAD.");
        for (int bad : new int[] {-1, 8, LEAST, MOST}) {
            Due.due("of(0, " + bad + ")", f.of(0, bad), BAD);
        }
        for (int bad : new int[] {-1, 1, 8, LEAST, MOST}) {
            for (int what = 0; what < 8; what++) {
                Due.due("of(" + bad + ", " + what + ")", f.of(bad, what), BAD);
            }
        }
    }

    private static void part() {
        Doc.promise(15);
        Doc.says("Of PART i of its latest CODE: 0 op, 1 d, 2 a, 3 b, 4 the INSTRUCTION it belongs to.");
        TemplateForge f = Due.with(2, 2, LOAD, 0, LOAD, 1, SUB, 0, RET, 0);
        for (int k = 0; k < 4; k++) {
            f.run(0, k, 9, 0);
        }
        int[] first = {GARG, 1, 9, 0, 0, MOVE, 7, 0, 0, 0, LI, 8, 9, 0, 2, P_SUB, 7, 7, 8, 2, P_RET, 0, 7, 0, 3};
        Due.parts(f, 0, first);
        Due.runs(f, 1, 0, 1, 8, 0, 0);
        // thrown away, it is the latest all the same, until there is another one
        Due.parts(f, 0, first);
        for (int k = 0; k < 3; k++) {
            f.run(0, k, 9, 0);
        }
        Due.parts(f, 0, first);
        f.run(0, 1, 9, 0);
        Due.parts(f, 0, MOVE, 7, 0, 0, 0, MOVE, 8, 1, 0, 1, P_SUB, 7, 7, 8, 2, P_RET, 0, 7, 0, 3);
        Doc.says("BAD: the least int.");
        for (int what = 0; what <= 4; what++) {
            for (int bad : new int[] {-1, 4, 5, LEAST, MOST}) {
                Due.due("part(0, " + bad + ", " + what + ")", f.part(0, bad, what), LEAST);
            }
            for (int bad : new int[] {-1, 1, 8, LEAST, MOST}) {
                Due.due("part(" + bad + ", 0, " + what + ")", f.part(bad, 0, what), LEAST);
            }
            Due.due("part of none", Due.with(0, 0, PUSH, 1, RET, 0).part(0, 0, what), LEAST);
        }
        for (int bad : new int[] {-1, 5, 6, LEAST, MOST}) {
            for (int i = 0; i < 4; i++) {
                Due.due("part(0, " + i + ", " + bad + ")", f.part(0, i, bad), LEAST);
            }
        }
    }

    private static void varies() {
        Doc.promise(16);
        Doc.says("Whether ARG x (0 .. 2), FIELD x - 10 (10 .. 17) VARIES in a METHOD: 1, 0.");
        TemplateForge f = new TemplateForge();
        f.method(3, 3);
        Due.write(f, 0, LOAD, 0, LOAD, 1, ADD, 0, LOAD, 2, ADD, 0);
        for (int k = 0; k < 8; k++) {
            Due.write(f, 0, FIELD, k, ADD, 0);
        }
        Due.write(f, 0, RET, 0);
        Due.look(f, 0, 2, 0);
        for (int x = 0; x < 11; x++) {
            Due.due("varies ahead", f.varies(0, x < 3 ? x : x + 7), 0);
            Due.runs(f, 4, 0, 5, 5, 5, 0);
            Due.due("varies in CODE", f.varies(0, x < 3 ? x : x + 7), 0);
            if (x >= 3) {
                f.keep(x - 3, 1);
            }
            Due.runs(f, 1, 0, x == 0 ? 6 : 5, x == 1 ? 6 : 5, x == 2 ? 6 : 5, 0);
            for (int y = 0; y < 11; y++) {
                Due.due("varies(0, " + (y < 3 ? y : y + 7) + ")", f.varies(0, y < 3 ? y : y + 7), y <= x ? 1 : 0);
            }
        }
        Doc.says("BAD.");
        for (int bad : new int[] {-1, 3, 4, 9, 18, LEAST, MOST}) {
            Due.due("varies(0, " + bad + ")", f.varies(0, bad), BAD);
        }
        for (int bad : new int[] {-1, 1, 8, LEAST, MOST}) {
            Due.due("varies(" + bad + ", 0)", f.varies(bad, 0), BAD);
            Due.due("varies(" + bad + ", 10)", f.varies(bad, 10), BAD);
        }
    }

    private static void depth() {
        Doc.promise(17);
        Doc.says("The depth of the PILE at an INSTRUCTION;");
        TemplateForge f = Due.with(0, 0, PUSH, 1, PUSH, 1, PUSH, 1, PUSH, 1, PUSH, 1, PUSH, 1, PUSH, 1, PUSH, 1, WHEN,
                10, RET, 0, RET, 0);
        int[] want = {0, 1, 2, 3, 4, 5, 6, 7, 8, 7, 7};
        for (int i = 0; i < want.length; i++) {
            Due.due("depth(0, " + i + ")", f.depth(0, i), want[i]);
        }
        Doc.says("NONE: DEAD, or the METHOD was not looked over rightly.");
        f = Due.written(0, 0, PUSH, 1, JUMP, 3, PUSH, 2);
        for (int look = 0; look < 3; look++) {
            for (int i = 0; i < 3; i++) {
                Due.due("depth(0, " + i + ")", f.depth(0, i), look < 2 ? NONE : i == 2 ? NONE : i);
            }
            if (look == 0) {
                Due.look(f, 0, -101, 4);
            } else if (look == 1) {
                Due.write(f, 0, RET, 0);
                Due.due("depth ahead of another look()", f.depth(0, 0), NONE);
                Due.look(f, 0, 1, 0);
            }
        }
        Doc.says("BAD.");
        for (int bad : new int[] {-1, 4, 60, LEAST, MOST}) {
            Due.due("depth(0, " + bad + ")", f.depth(0, bad), BAD);
        }
        for (int bad : new int[] {-1, 1, 8, LEAST, MOST}) {
            Due.due("depth(" + bad + ", 0)", f.depth(bad, 0), BAD);
        }
        f = Due.written(0, 0, PUSH, 1);
        Due.due("depth(0, 1) of one not looked over", f.depth(0, 1), BAD);
        Due.due("depth(0, 0) of one without INSTRUCTIONS", Due.written(0, 0).depth(0, 0), BAD);
    }

    private static void count() {
        Doc.promise(18);
        Doc.says("0 METHODS, 1 runs,");
        TemplateForge f = new TemplateForge();
        Due.due("count(0)", f.count(0), 0);
        Due.due("count(1)", f.count(1), 0);
        for (int m = 0; m < 8; m++) {
            Due.method(f, 0, 0, PUSH, m, RET, 0);
            Due.due("count(0)", f.count(0), m + 1);
            Due.runs(f, 2, m, 0, 0, 0, 0);
            Due.due("count(1)", f.count(1), 2 * m + 2);
        }
        f.method(0, 0);
        f.run(8, 0, 0, 0);
        Due.due("count(0) after FULL", f.count(0), 8);
        Due.due("count(1) after BAD", f.count(1), 16);
        Doc.says("of the latest run: 2 STEPS, 3 calls, 4 of these by CODE, 5 GUARDS that FAILED.");
        // METHOD 1 goes around by its ARG 0; each time around it calls METHOD 0 with ARG 1
        f = Due.with(1, 1, LOAD, 0, RET, 0);
        Due.method(f, 2, 2, LOAD, 0, WHEN, 9, LOAD, 1, CALL, 0, POP, 0, LOAD, 0, PUSH, -1, ADD, 0, JUMP, 11, PUSH, 3,
                RET, 0, STORE, 0, JUMP, 0);
        for (int what = 2; what <= 5; what++) {
            Due.due("count(" + what + ") of none", f.count(what), 0);
        }
        int[][] all = {{2, 5, 5, 3, 0, 0}, {2, 5, 5, 3, 1, 0}, {2, 5, 5, 3, 2, 0}, {2, 5, 5, 3, 3, 0}, {3, 6, 7, 4, 2, 2},
            {0, 5, 1, 1, 0, 0}};
        for (int[] a : all) {
            Due.answers(f, 1, a[0], a[1], 0, 3);
            for (int what = 2; what <= 5; what++) {
                Due.due("count(" + what + ") of run(1, " + a[0] + ", " + a[1] + ")", f.count(what), a[what]);
            }
        }
        f.run(9, 0, 0, 0);
        Due.due("count(2) after a run that was refused", f.count(2), 1);
        Due.due("count(3) after a run that was refused", f.count(3), 1);
        Doc.says("BAD.");
        for (int bad : new int[] {-1, 6, 7, LEAST, MOST}) {
            Due.due("count(" + bad + ")", f.count(bad), BAD);
        }
    }

    private static long digest(int... all) {
        long h = 17;
        for (int v : all) {
            h = 31 * h + v;
        }
        return h;
    }

    private static void digestOfData() {
        Doc.promise(19);
        Doc.says("h is 17; h becomes 31 h and each of: FIELDS,");
        TemplateForge f = new TemplateForge();
        Due.due("digest()", f.digest(), digest(0, 0, 0, 0, 0, 0, 0, 0, -1, -1, -1, -1, 0, 0, 0, 0, 0));
        for (int k = 0; k < 8; k++) {
            f.keep(k, 10 - 3 * k);
        }
        Due.due("digest()", f.digest(), digest(10, 7, 4, 1, -2, -5, -8, -11, -1, -1, -1, -1, 0, 0, 0, 0, 0));
        Due.due("digest() again", f.digest(), digest(10, 7, 4, 1, -2, -5, -8, -11, -1, -1, -1, -1, 0, 0, 0, 0, 0));
        Doc.says("of each ROW size() and its items,");
        f = Due.with(1, 1, LOAD, 0, NEW, 1, PUSH, 0, NEW, 2, LOAD, 0, NEW, 3, PUSH, 1, PUSH, 8, SET, 1, PUSH, 0, PUSH,
                -9, SET, 3, PUSH, 6, RET, 0);
        Due.runs(f, 1, 0, 2, 0, 0, 0);
        Due.due("digest()", f.digest(), digest(0, 0, 0, 0, 0, 0, 0, 0, -1, 2, 0, 8, 0, 2, -9, 0, 6, 0, 0, 0, 0, 0, 1, 0,
                0, 0, 0));
        f.lose(1);
        Due.due("digest()", f.digest(), digest(0, 0, 0, 0, 0, 0, 0, 0, -1, -1, 0, 2, -9, 0, 6, 0, 0, 0, 0, 0, 1, 0, 0, 0,
                0));
        Doc.says("answer(), trap() 0 to 3,");
        f = Due.with(1, 1, PUSH, 0, POP, 0, PUSH, 6, LOAD, 0, DIV, 0, RET, 0);
        Due.method(f, 1, 1, LOAD, 0, CALL, 0, RET, 0);
        Due.method(f, 0, 0, LOAD - 1, 0, GET, 0, RET, 0);
        Due.runs(f, 1, 1, 0, 0, 0, 1);
        Due.due("digest()", f.digest(), digest(0, 0, 0, 0, 0, 0, 0, 0, -1, -1, -1, -1, 0, 1, 0, 4, 2, 0, 1, 0, 0, 0, 0, 0,
                1, 0, 0, 0, 0, 0, 0, 0, 0, 0, 0));
        Due.runs(f, 1, 2, 0, 0, 0, 1);
        Due.due("digest()", f.digest(), digest(0, 0, 0, 0, 0, 0, 0, 0, -1, -1, -1, -1, 0, 2, 2, 1, 1, 0, 1, 0, 0, 0, 0, 0,
                1, 0, 0, 0, 0, 0, 1, 0, 0, 0, 0));
    }

    private static void digestOfMethods() {
        Doc.says("of each METHOD of() 0 to 5,");
        TemplateForge f = Due.with(0, 0, PUSH, 4, POP, 0, JUMP, 0);
        Due.method(f, 1, 1, LOAD, 0, RET, 0);
        Due.runs(f, 2, 1, 3, 0, 0, 0);
        Due.due("digest()", f.digest(), digest(0, 0, 0, 0, 0, 0, 0, 0, -1, -1, -1, -1, 3, 0, 0, 0, 0, 0, 0, 0, 0, 0, 0, 0,
                2, 0, 0, 0, 0));
        Doc.says("of each PART of its latest CODE part() 0 to 4;");
        Due.runs(f, 3, 1, 3, 0, 0, 0);
        Due.due("digest()", f.digest(), digest(0, 0, 0, 0, 0, 0, 0, 0, -1, -1, -1, -1, 3, 0, 0, 0, 0, 0, 0, 0, 0, 0, 0, 1,
                3, 1, 0, 2, 3, GARG, 0, 3, 0, 0, LI, 7, 3, 0, 1, P_RET, 0, 7, 0, 1));
        // thrown away, it is its latest all the same
        Due.runs(f, 1, 1, 8, 0, 0, 0);
        Due.due("digest()", f.digest(), digest(0, 0, 0, 0, 0, 0, 0, 0, -1, -1, -1, -1, 8, 0, 0, 0, 0, 0, 0, 0, 0, 0, 0, 0,
                0, 1, 1, 3, 3, GARG, 0, 3, 0, 0, LI, 7, 3, 0, 1, P_RET, 0, 7, 0, 1));
        Doc.says("as longs that wrap.");
        f = new TemplateForge();
        for (int k = 0; k < 8; k++) {
            f.keep(k, k % 2 == 0 ? MOST : LEAST);
        }
        java.math.BigInteger h = java.math.BigInteger.valueOf(17);
        for (int v : new int[] {MOST, LEAST, MOST, LEAST, MOST, LEAST, MOST, LEAST, -1, -1, -1, -1, 0, 0, 0, 0, 0}) {
            h = h.multiply(java.math.BigInteger.valueOf(31)).add(java.math.BigInteger.valueOf(v));
        }
        Due.due("bits of h", Math.min(h.bitLength(), 65), 65);
        Due.due("digest()", f.digest(), h.longValue());
    }
}
