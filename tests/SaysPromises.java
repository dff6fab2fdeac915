/** Refusals and Promises 1 to 10, a test for each of the document's words. */
final class SaysPromises implements Ops {
    private SaysPromises() {
    }

    static void all() {
        Doc.section("Refusals, the first that fits", "Ahead of the calls");
        firstThatFits();
        changeNothing();
        newObject();
        method();
        write();
        look();
        fault();
        keep();
        field();
        lose();
        size();
        item();
    }

    private static void firstThatFits() {
        Doc.says("Refusals, the first that fits: BAD -2 (no such thing, a number not as told), STATE -3 (as told), FULL "
                + "-4.");
        Due.due("BAD", TemplateForge.BAD, -2);
        Due.due("STATE", TemplateForge.STATE, -3);
        Due.due("FULL", TemplateForge.FULL, -4);
        // write: looked over rightly, with sixty
        TemplateForge f = new TemplateForge();
        f.method(0, 0);
        for (int i = 0; i < 58; i++) {
            Due.write(f, 0, i % 2 == 0 ? PUSH : POP, 0);
        }
        Due.write(f, 0, PUSH, 1, RET, 0);
        Due.due("write: FULL", f.write(0, PUSH, 0), -4);
        Due.due("write: BAD ahead of FULL", f.write(0, 20, 0), -2);
        Due.look(f, 0, 1, 0);
        Due.due("write: STATE ahead of FULL", f.write(0, PUSH, 0), -3);
        Due.due("write: BAD ahead of STATE and FULL", f.write(0, -1, 0), -2);
        Due.due("write: BAD", f.write(1, PUSH, 0), -2);
        // run: after eighty, with one that was not looked over
        Due.runs(f, 80, 0, 0, 0, 0, 0);
        Due.due("run: FULL", f.run(0, 0, 0, 0), -4);
        Due.due("run: BAD ahead of FULL", f.run(1, 0, 0, 0), -2);
        f.method(0, 0);
        Due.due("run: STATE ahead of FULL", f.run(0, 0, 0, 0), -3);
        Due.due("run: BAD ahead of STATE and FULL", f.run(2, 0, 0, 0), -2);
        // method: with eight
        for (int m = 2; m < 8; m++) {
            f.method(0, 0);
        }
        Due.due("method: FULL", f.method(0, 0), -4);
        Due.due("method: BAD ahead of FULL", f.method(0, 7), -2);
        Due.due("method: BAD ahead of FULL", f.method(4, 6), -2);
        f = new TemplateForge();
        f.method(0, 0);
        Due.due("run: BAD ahead of STATE", f.run(1, 0, 0, 0), -2);
        Due.due("look: BAD", f.look(1), -2);
    }

    /** METHOD 0 has CODE again after a GUARD that FAILED, METHOD 1 is for ROW 1, METHOD 2 ended the latest run. */
    private static TemplateForge busy() {
        TemplateForge f = Due.with(2, 2, LOAD, 0, LOAD, 1, ADD, 0, RET, 0);
        Due.method(f, 1, 1, LOAD, 0, NEW, 1, PUSH, 1, PUSH, 7, SET, 1, PUSH, 0, RET, 0);
        Due.method(f, 0, 0, PUSH, 1, PUSH, 0, CALL, 1, DIV, 0, RET, 0);
        f.keep(3, 33);
        Due.runs(f, 4, 0, 5, 6, 0, 0);
        Due.runs(f, 5, 0, 5, 7, 0, 0);
        Due.runs(f, 1, 1, 3, 0, 0, 0);
        Due.runs(f, 1, 2, 0, 0, 0, 1);
        return f;
    }

    /** All that can be asked of an object with up to four METHODS. */
    private static long seen(TemplateForge f) {
        long h = f.digest() * 31 + f.fault();
        for (int what = 0; what <= 5; what++) {
            h = 31 * h + f.count(what);
        }
        for (int m = 0; m < 4; m++) {
            for (int what = 0; what <= 7; what++) {
                h = 31 * h + f.of(m, what);
            }
            for (int x = 0; x <= 17; x++) {
                h = 31 * h + f.varies(m, x);
            }
            for (int i = 0; i < Math.max(f.of(m, 6), 0); i++) {
                h = 31 * h + f.depth(m, i);
            }
        }
        return h;
    }

    /** The refused call answers so, and an object that it was called on can't be told from one without it. */
    private static int refused(TemplateForge f, int call, int state) {
        switch (call) {
            case 0:
                return f.method(4, 6);
            case 1:
                return f.write(7, PUSH, 0);
            case 2:
                return f.write(state == 0 ? 0 : 3, 20, 0);
            case 3:
                return f.write(0, PUSH, 0);
            case 4:
                return f.look(7);
            case 5:
                return f.look(0);
            case 6:
                return f.lose(4);
            case 7:
                return f.run(7, 1, 2, 3);
            case 8:
                return f.run(0, 1, 2, 3);
            case 9:
                return f.keep(8, 5);
            default:
                return f.keep(-1, 5);
        }
    }

    private static void changeNothing() {
        Doc.says("They change nothing.");
        int[] want = {BAD, BAD, BAD, STATE, BAD, STATE, BAD, BAD, STATE, LEAST, LEAST};
        for (int state = 0; state < 2; state++) {
            for (int call = 0; call < want.length; call++) {
                TemplateForge f = busy(), g = busy();
                if (state == 1) {
                    // one more that has FAULT 1
                    for (TemplateForge t : new TemplateForge[] {f, g}) {
                        t.method(0, 0);
                        Due.write(t, 3, POP, 0);
                        Due.look(t, 3, -100, 1);
                    }
                }
                if (state == 1 || call != 8) {
                    Due.due("refused call " + call, refused(f, call, state), want[call]);
                }
                Due.due("what is seen after refused call " + call, seen(f), seen(g));
            }
        }
        fullChangesNothing();
    }

    private static void fullChangesNothing() {
        TemplateForge[] two = {busy(), busy()};
        for (TemplateForge t : two) {
            Due.runs(t, 69, 2, 0, 0, 0, 1);
            Due.due("count(1)", t.count(1), 80);
        }
        Due.due("run", two[0].run(0, 9, 9, 9), FULL);
        Due.due("what is seen after a run that is FULL", seen(two[0]), seen(two[1]));
        two = new TemplateForge[] {new TemplateForge(), new TemplateForge()};
        for (TemplateForge t : two) {
            for (int m = 0; m < 8; m++) {
                t.method(0, 0);
            }
            for (int i = 0; i < 60; i++) {
                Due.write(t, 0, PUSH, i);
            }
        }
        Due.due("method", two[0].method(3, 6), FULL);
        Due.due("write", two[0].write(0, RET, 0), FULL);
        Due.due("what is seen after those that are FULL", seen(two[0]), seen(two[1]));
        Due.look(two[0], 0, -108, 2);
    }

    private static void newObject() {
        Doc.promise(1);
        Doc.says("No METHODS;");
        TemplateForge f = new TemplateForge();
        Due.due("count(0)", f.count(0), 0);
        for (int m = 0; m < 8; m++) {
            Due.due("of(" + m + ", 6)", f.of(m, 6), BAD);
            Due.due("look(" + m + ")", f.look(m), BAD);
            Due.due("run(" + m + ")", f.run(m, 0, 0, 0), BAD);
            Due.due("write(" + m + ")", f.write(m, PUSH, 0), BAD);
        }
        Due.due("method(0, 0)", f.method(0, 0), 0);
        // another object is another one
        Due.due("count(0) of another", new TemplateForge().count(0), 0);
        Doc.says("FIELDS are 0, ROWS are LOST.");
        f = new TemplateForge();
        for (int k = 0; k < 8; k++) {
            Due.due("field(" + k + ")", f.field(k), 0);
        }
        for (int r = 0; r < 4; r++) {
            Due.due("size(" + r + ")", f.size(r), NONE);
            Due.due("lose(" + r + ")", f.lose(r), NONE);
        }
    }

    private static void method() {
        Doc.promise(2);
        Doc.says("A METHOD: its number.");
        TemplateForge f = new TemplateForge();
        for (int m = 0; m < 8; m++) {
            Due.due("method(3, 6)", f.method(m % 4, 6 - m % 3), m);
            Due.due("count(0)", f.count(0), m + 1);
        }
        Doc.says("BAD: ARGS, LOCALS;");
        f = new TemplateForge();
        int[][] bad = {{-1, 0}, {-1, -1}, {4, 4}, {4, 6}, {0, -1}, {1, 0}, {3, 2}, {0, 7}, {3, 7}, {LEAST, 6}, {MOST, 6},
            {0, LEAST}, {0, MOST}, {MOST, MOST}, {LEAST, LEAST}};
        for (int[] b : bad) {
            Due.due("method(" + b[0] + ", " + b[1] + ")", f.method(b[0], b[1]), BAD);
        }
        Due.due("count(0)", f.count(0), 0);
        Doc.says("FULL.");
        for (int m = 0; m < 8; m++) {
            f.method(0, 0);
        }
        Due.due("a ninth", f.method(0, 0), FULL);
        Due.due("a tenth", f.method(3, 6), FULL);
        Due.due("count(0)", f.count(0), 8);
    }

    private static void write() {
        Doc.promise(3);
        Doc.says("An INSTRUCTION more of a METHOD: its number.");
        TemplateForge f = new TemplateForge();
        f.method(0, 0);
        f.method(0, 0);
        for (int i = 0; i < 5; i++) {
            Due.due("write(0, ..)", f.write(0, PUSH, 0), i);
            Due.due("write(1, ..)", f.write(1, PUSH, 0), i);
            Due.due("of(0, 6)", f.of(0, 6), i + 1);
        }
        // after a look with a FAULT as well
        Due.look(f, 0, -104, 5);
        Due.due("write", f.write(0, RET, 0), 5);
        Due.look(f, 0, 5, 0);
        Doc.says("BAD: the METHOD, OP (0 .. 19);");
        f = new TemplateForge();
        f.method(0, 0);
        for (int m : new int[] {-1, 1, 7, 8, LEAST, MOST}) {
            Due.due("write(" + m + ", 0, 0)", f.write(m, 0, 0), BAD);
        }
        for (int op : new int[] {-1, 20, 21, LEAST, MOST}) {
            Due.due("write(0, " + op + ", 0)", f.write(0, op, 0), BAD);
        }
        Due.due("of(0, 6)", f.of(0, 6), 0);
        for (int op = 0; op < 20; op++) {
            Due.due("write(0, " + op + ", 0)", f.write(0, op, 0), op);
        }
        Doc.says("STATE: it was looked over rightly;");
        f = Due.with(0, 0, PUSH, 1, RET, 0);
        Due.due("write", f.write(0, PUSH, 1), STATE);
        Due.due("of(0, 6)", f.of(0, 6), 2);
        f.method(0, 0);
        Due.write(f, 1, PUSH, 1);
        Due.look(f, 1, -100, 5);
        Due.write(f, 1, RET, 0);
        // one whose PILE has no place filled was looked over rightly, too
        Due.method(f, 0, 0, JUMP, 0);
        Due.due("write", f.write(2, PUSH, 1), STATE);
        Doc.says("FULL.");
        f = new TemplateForge();
        f.method(0, 0);
        for (int i = 0; i < 60; i++) {
            Due.due("write", f.write(0, PUSH, 1), i);
        }
        Due.due("a 61st", f.write(0, PUSH, 1), FULL);
        Due.due("of(0, 6)", f.of(0, 6), 60);
        f.method(0, 0);
        Due.due("write to another", f.write(1, PUSH, 1), 0);
    }

    private static void look() {
        Doc.promise(4);
        Doc.says("A METHOD is LOOKED OVER: the greatest depth of its PILE;");
        for (int most = 1; most <= 8; most++) {
            TemplateForge f = new TemplateForge();
            f.method(0, 0);
            for (int k = 0; k < most; k++) {
                Due.write(f, 0, PUSH, 0);
            }
            Due.write(f, 0, RET, 0, PUSH, 0, PUSH, 0);
            Due.look(f, 0, most, 0);
        }
        Due.right(0, JUMP, 0);
        Due.right(3, PUSH, 1, PUSH, 2, PUSH, 3, POP, 0, POP, 0, RET, 0);
        Due.right(4, PUSH, 1, WHEN, 4, PUSH, 1, RET, 0, PUSH, 1, PUSH, 2, PUSH, 3, PUSH, 4, RET, 0);
        Doc.says("-100 less the INSTRUCTION of its FAULT (0 for one without any: FAULT 5).");
        Due.look(Due.written(0, 0), 0, -100, 5);
        Due.look(Due.written(3, 6), 0, -100, 5);
        Due.faulty(1, 0, POP, 0);
        Due.faulty(6, 2, PUSH, 1, PUSH, 1, LOAD, 2);
        Due.faulty(4, 4, PUSH, 1, POP, 0, PUSH, 1, POP, 0, JUMP, 5);
        Doc.says("BAD;");
        TemplateForge f = new TemplateForge();
        Due.due("look(0)", f.look(0), BAD);
        f.method(0, 0);
        for (int m : new int[] {-1, 1, 8, LEAST, MOST}) {
            Due.due("look(" + m + ")", f.look(m), BAD);
        }
        Doc.says("STATE: it was, rightly.");
        f = Due.written(0, 0, PUSH, 1);
        Due.look(f, 0, -100, 5);
        Due.look(f, 0, -100, 5);
        Due.write(f, 0, RET, 0);
        Due.look(f, 0, 1, 0);
        Due.due("look again", f.look(0), STATE);
        Due.due("look once more", f.look(0), STATE);
        f = Due.with(0, 0, JUMP, 0);
        Due.due("look again", f.look(0), STATE);
    }

    private static void fault() {
        Doc.promise(5);
        Doc.says("The number of the FAULT of the latest look() that was not BAD, STATE;");
        TemplateForge f = new TemplateForge();
        int[][] all = {{POP, 0}, {PUSH, 0}, {PUSH, 0, JUMP, 0}, {JUMP, 9}, {}, {LOAD, 0}};
        int[] want = {1, 5, 3, 4, 5, 6}, at = {0, 0, 1, 0, 0, 0};
        for (int m = 0; m < 6; m++) {
            f.method(0, 0);
            Due.write(f, m, all[m]);
            Due.look(f, m, -100 - at[m], want[m]);
        }
        Due.method(f, 0, 0, PUSH, 1, RET, 0);
        for (int m = 0; m < 6; m++) {
            Due.look(f, m, -100 - at[m], want[m]);
            Due.due("look(7)", f.look(7), BAD);
            Due.due("fault() after BAD", f.fault(), want[m]);
            Due.due("look(6)", f.look(6), STATE);
            Due.due("fault() after STATE", f.fault(), want[m]);
        }
        f = new TemplateForge();
        f.method(0, 0);
        for (int k = 0; k < 9; k++) {
            Due.write(f, 0, PUSH, 0);
        }
        Due.look(f, 0, -108, 2);
        Doc.says("0: none, or before any.");
        f = new TemplateForge();
        Due.due("fault() before any", f.fault(), 0);
        Due.due("look(0)", f.look(0), BAD);
        Due.due("fault() after BAD alone", f.fault(), 0);
        f.method(0, 0);
        Due.write(f, 0, PUSH, 1);
        Due.due("fault() before any", f.fault(), 0);
        Due.look(f, 0, -100, 5);
        Due.write(f, 0, RET, 0);
        Due.look(f, 0, 1, 0);
    }

    private static void keep() {
        Doc.promise(6);
        Doc.says("FIELD f is v: what it was.");
        TemplateForge f = new TemplateForge();
        for (int k = 0; k < 8; k++) {
            Due.due("keep", f.keep(k, 10 + k), 0);
            Due.due("keep", f.keep(k, LEAST), 10 + k);
            Due.due("keep", f.keep(k, MOST), LEAST);
            Due.due("keep", f.keep(k, 20 + k), MOST);
        }
        for (int k = 0; k < 8; k++) {
            Due.due("field(" + k + ")", f.field(k), 20 + k);
        }
        Doc.says("BAD: the least int.");
        for (int bad : new int[] {-1, 8, LEAST, MOST}) {
            Due.due("keep(" + bad + ", 5)", f.keep(bad, 5), LEAST);
        }
        for (int k = 0; k < 8; k++) {
            Due.due("field(" + k + ")", f.field(k), 20 + k);
        }
    }

    private static void field() {
        Doc.promise(7);
        Doc.says("FIELD f.");
        TemplateForge f = Due.with(1, 1, LOAD, 0, KEEP, 7, FIELD, 7, RET, 0);
        f.keep(0, -3);
        Due.due("field(0)", f.field(0), -3);
        for (int k = 0; k < 5; k++) {
            Due.answers(f, 0, k, 0, 0, k);
            Due.due("field(7)", f.field(7), k);
        }
        Doc.says("BAD: the least int.");
        for (int bad : new int[] {-1, 8, LEAST, MOST}) {
            Due.due("field(" + bad + ")", f.field(bad), LEAST);
        }
    }

    /** METHOD r makes ROW r of its ARG's length, item i of it 100 + i for its ARG's last one alone. */
    private static TemplateForge rows() {
        TemplateForge f = new TemplateForge();
        for (int r = 0; r < 4; r++) {
            Due.method(f, 1, 1, LOAD, 0, NEW, r, LOAD, 0, WHEN, 8, LOAD, 0, PUSH, -1, ADD, 0, JUMP, 10, PUSH, 0, RET, 0,
                    PUSH, 100 + r, SET, r, PUSH, 0, RET, 0);
        }
        return f;
    }

    private static void lose() {
        Doc.promise(8);
        Doc.says("ROW r is LOST: how many items it had (NONE: it was).");
        TemplateForge f = rows();
        int[] lengths = {0, 1, 19, 20};
        for (int r = 0; r < 4; r++) {
            Due.due("lose(" + r + ")", f.lose(r), NONE);
            Due.runs(f, 1, r, lengths[r], 0, 0, 0);
        }
        for (int r = 0; r < 4; r++) {
            Due.due("size(" + r + ")", f.size(r), lengths[r]);
            Due.due("lose(" + r + ")", f.lose(r), lengths[r]);
            Due.due("size(" + r + ")", f.size(r), NONE);
            Due.due("item(" + r + ", 0)", f.item(r, 0), 0);
            Due.due("lose(" + r + ") again", f.lose(r), NONE);
        }
        // what it had is not there in a new one
        Due.runs(f, 1, 3, 20, 0, 0, 0);
        f.lose(3);
        Due.runs(f, 1, 3, 0, 0, 0, 0);
        f.lose(3);
        f.method(0, 0);
        Due.write(f, 4, PUSH, 20, NEW, 3, PUSH, 0, RET, 0);
        Due.look(f, 4, 1, 0);
        Due.runs(f, 1, 4, 0, 0, 0, 0);
        for (int i = 0; i < 20; i++) {
            Due.due("item(3, " + i + ")", f.item(3, i), 0);
        }
        Doc.says("BAD.");
        for (int bad : new int[] {-1, 4, LEAST, MOST}) {
            Due.due("lose(" + bad + ")", f.lose(bad), BAD);
        }
    }

    private static void size() {
        Doc.promise(9);
        Doc.says("How many items ROW r has; NONE: it is LOST.");
        TemplateForge f = rows();
        for (int r = 0; r < 4; r++) {
            for (int n : new int[] {0, 1, 2, 19, 20}) {
                Due.runs(f, 1, r, n, 0, 0, 0);
                Due.due("size(" + r + ")", f.size(r), n);
            }
        }
        f.lose(2);
        for (int r = 0; r < 4; r++) {
            Due.due("size(" + r + ")", f.size(r), r == 2 ? NONE : 20);
        }
        Doc.says("BAD.");
        for (int bad : new int[] {-1, 4, LEAST, MOST}) {
            Due.due("size(" + bad + ")", f.size(bad), BAD);
        }
    }

    private static void item() {
        Doc.promise(10);
        Doc.says("Item i of ROW r;");
        TemplateForge f = rows();
        for (int r = 0; r < 4; r++) {
            for (int n : new int[] {1, 2, 20}) {
                Due.runs(f, 1, r, n, 0, 0, 0);
                Due.due("item(" + r + ", " + (n - 1) + ")", f.item(r, n - 1), 100 + r);
                Due.due("item(" + r + ", 0)", f.item(r, 0), n == 1 ? 100 + r : 0);
            }
        }
        Doc.says("0: there is none.");
        for (int i : new int[] {-1, 20, 21, LEAST, MOST}) {
            for (int r = 0; r < 4; r++) {
                Due.due("item(" + r + ", " + i + ")", f.item(r, i), 0);
            }
        }
        for (int bad : new int[] {-1, 4, LEAST, MOST}) {
            Due.due("item(" + bad + ", 0)", f.item(bad, 0), 0);
            Due.due("item(" + bad + ", 19)", f.item(bad, 19), 0);
        }
        f.lose(0);
        Due.due("item(0, 19) of a LOST one", f.item(0, 19), 0);
        Due.runs(f, 1, 1, 3, 0, 0, 0);
        Due.due("item(1, 19) of a new one of three", f.item(1, 19), 0);
        Due.due("item(1, 3) of a new one of three", f.item(1, 3), 0);
        Due.due("item(1, 2)", f.item(1, 2), 101);
    }
}
