/** Terms, 1: PROGRAMS and their OPS, a test for each of the document's words. */
final class SaysPrograms implements Ops {
    private static final int[] NO_ARGS = {};

    private SaysPrograms() {
    }

    static void all() {
        Doc.section("======== 1 PROGRAMS", "LOOKING OVER a METHOD");
        eightMethods();
        args();
        locals();
        firstLocals();
        sixty();
        opAndX();
        eightPlaces();
        fields();
        rowsAreLost();
        rowLengths();
        pileOps();
        localOps();
        sums();
        quotients();
        comparing();
        jumping();
        calling();
        fieldOps();
        rowsAnew();
        items();
        dupAndPop();
        wrapping();
    }

    private static void eightMethods() {
        Doc.says("METHODS 0 .. 7");
        TemplateForge f = new TemplateForge();
        for (int m = 0; m < 8; m++) {
            Due.due("of(m, 6) ahead", f.of(m, 6), BAD);
            Due.due("method(0, 0)", f.method(0, 0), m);
            Due.due("of(m, 6)", f.of(m, 6), 0);
        }
        Due.due("a ninth", f.method(0, 0), FULL);
        Due.due("of(8, 6)", f.of(8, 6), BAD);
        Due.due("of(-1, 6)", f.of(-1, 6), BAD);
    }

    private static void args() {
        Doc.says("have ARGS (0 to 3),");
        TemplateForge f = new TemplateForge();
        for (int bad : new int[] {-1, 4, LEAST, MOST}) {
            Due.due("method(" + bad + ", 6)", f.method(bad, 6), BAD);
        }
        for (int args = 0; args <= 3; args++) {
            Due.due("method(" + args + ", 6)", f.method(args, 6), args);
        }
    }

    private static void locals() {
        Doc.says("LOCALS (ARGS to 6;");
        TemplateForge f = new TemplateForge();
        int next = 0;
        for (int args = 0; args <= 3; args++) {
            for (int bad : new int[] {args - 1, 7, LEAST, MOST}) {
                Due.due("method(" + args + ", " + bad + ")", f.method(args, bad), BAD);
            }
            Due.due("method(" + args + ", " + args + ")", f.method(args, args), next++);
            Due.due("method(" + args + ", 6)", f.method(args, 6), next++);
        }
    }

    private static void firstLocals() {
        Doc.says("the first ones are the ARGS)");
        Due.returns(123, new int[] {1, 2, 3}, LOAD, 0, PUSH, 100, MUL, 0, LOAD, 1, PUSH, 10, MUL, 0, ADD, 0, LOAD, 2,
                ADD, 0, RET, 0);
        Due.returns(9, new int[] {1, 2}, PUSH, 9, STORE, 1, LOAD, 1, RET, 0);
    }

    private static void sixty() {
        Doc.says("INSTRUCTIONS numbered from 0 (60 at most):");
        TemplateForge f = new TemplateForge();
        f.method(0, 0);
        for (int i = 0; i < 58; i++) {
            Due.due("write", f.write(0, i % 2 == 0 ? PUSH : POP, i), i);
        }
        Due.write(f, 0, PUSH, 5, RET, 0);
        Due.due("a 61st", f.write(0, RET, 0), FULL);
        Due.due("of(0, 6)", f.of(0, 6), 60);
        Due.look(f, 0, 1, 0);
        Due.answers(f, 0, 0, 0, 0, 5);
        Due.due("depth(0, 59)", f.depth(0, 59), 1);
        Due.due("depth(0, 60)", f.depth(0, 60), BAD);
    }

    private static void opAndX() {
        Doc.says("an OP and an X.");
        TemplateForge f = new TemplateForge();
        f.method(0, 0);
        for (int op = 0; op < 20; op++) {
            Due.due("write(0, " + op + ", least)", f.write(0, op, LEAST), 2 * op);
            Due.due("write(0, " + op + ", most)", f.write(0, op, MOST), 2 * op + 1);
        }
        for (int x : new int[] {LEAST, -1, 0, 1, MOST}) {
            Due.returns(x, NO_ARGS, PUSH, x, RET, x);
        }
    }

    private static void eightPlaces() {
        Doc.says("The PILE has 8 places at most.");
        Due.returns(1 - 2 + 4 - 8 + 16 - 32 + 64 - 128, NO_ARGS, PUSH, 1, PUSH, 2, PUSH, 4, PUSH, 8, PUSH, 16, PUSH,
                32, PUSH, 64, PUSH, 128, SUB, 0, SUB, 0, SUB, 0, SUB, 0, SUB, 0, SUB, 0, SUB, 0, RET, 0);
        Due.right(8, PUSH, 1, PUSH, 1, PUSH, 1, PUSH, 1, PUSH, 1, PUSH, 1, PUSH, 1, PUSH, 1, RET, 0);
        Due.faulty(2, 8, PUSH, 1, PUSH, 1, PUSH, 1, PUSH, 1, PUSH, 1, PUSH, 1, PUSH, 1, PUSH, 1, PUSH, 1, RET, 0);
    }

    private static void fields() {
        Doc.says("FIELDS 0 .. 7 are ints (0 at first),");
        TemplateForge f = new TemplateForge();
        for (int k = 0; k < 8; k++) {
            Due.due("field(" + k + ") at first", f.field(k), 0);
            Due.due("keep(" + k + ", least)", f.keep(k, LEAST), 0);
            Due.due("keep(" + k + ", most)", f.keep(k, MOST - k), LEAST);
        }
        for (int k = 0; k < 8; k++) {
            Due.due("field(" + k + ")", f.field(k), MOST - k);
        }
        Due.due("keep(8, 1)", f.keep(8, 1), LEAST);
        Due.due("keep(-1, 1)", f.keep(-1, 1), LEAST);
    }

    private static void rowsAreLost() {
        Doc.says("ROWS 0 .. 3 are LOST at first,");
        TemplateForge f = new TemplateForge();
        for (int r = 0; r < 4; r++) {
            Due.due("size(" + r + ")", f.size(r), NONE);
            Due.traps(2, 1, NO_ARGS, PUSH, 0, GET, r, RET, 0);
        }
        Due.due("size(4)", f.size(4), BAD);
        Due.due("size(-1)", f.size(-1), BAD);
    }

    private static void rowLengths() {
        Doc.says("or have 0 to 20 ints.");
        TemplateForge f = Due.with(1, 1, LOAD, 0, NEW, 3, PUSH, 0, RET, 0);
        for (int n : new int[] {0, 1, 19, 20}) {
            Due.runs(f, 1, 0, n, 0, 0, 0);
            Due.due("size(3)", f.size(3), n);
        }
        Due.runs(f, 1, 0, 21, 0, 0, 1);
        Due.runs(f, 1, 0, -1, 0, 0, 1);
        Due.due("size(3)", f.size(3), 20);
    }

    /**
     * What is told of an op with 0 to 8 places filled: FAULT 1 if it takes more than that, FAULT 2 if it leaves more
     * than 8, else what it leaves. METHOD 1 has the ARGS that a CALL takes.
     */
    private static void takesLays(int op, int takes, int lays) {
        for (int filled = 0; filled <= 8; filled++) {
            TemplateForge f = new TemplateForge();
            f.method(0, 1);
            f.method(op == CALL ? takes : 0, 6);
            for (int k = 0; k < filled; k++) {
                Due.write(f, 0, PUSH, 0);
            }
            int x = op == JUMP || op == WHEN ? filled + 1 : op == CALL ? 1 : 0, left = filled - takes + lays;
            Due.write(f, 0, op, x, JUMP, filled + 1);
            if (filled < takes) {
                Due.look(f, 0, -100 - filled, 1);
            } else if (left > 8) {
                Due.look(f, 0, -100 - filled, 2);
            } else {
                Due.look(f, 0, Math.max(filled, op == RET ? 0 : left), 0);
                Due.due("depth behind op " + op, f.depth(0, filled + 1), op == RET ? NONE : left);
            }
        }
    }

    private static void pileOps() {
        Doc.says("OPS (what they take from the top of the PILE > what they lay there; the last told is on top):");
        Due.returns(7, NO_ARGS, PUSH, 100, PUSH, 30, PUSH, 20, PUSH, 3, SUB, 0, SUB, 0, SUB, 0, PUSH, 80, SUB, 0, RET,
                0);
        Doc.says("0 PUSH: > X.");
        takesLays(PUSH, 0, 1);
        Due.returns(47, NO_ARGS, PUSH, 40, PUSH, -7, SUB, 0, RET, 0);
    }

    private static void localOps() {
        Doc.says("1 LOAD: > LOCAL X.");
        takesLays(LOAD, 0, 1);
        for (int x = 0; x < 3; x++) {
            Due.returns(50 + x, new int[] {50, 51, 52}, LOAD, x, RET, 0);
        }
        Due.returns(-60, new int[] {60}, LOAD, 5, LOAD, 0, LOAD, 0, SUB, 0, LOAD, 0, SUB, 0, ADD, 0, RET, 0);
        Doc.says("2 STORE: v >; LOCAL X is v.");
        takesLays(STORE, 1, 0);
        for (int x = 0; x < 6; x++) {
            Due.returns(9, new int[] {1, 2, 3}, PUSH, 9, STORE, x, LOAD, x, RET, 0);
            Due.returns(9, new int[] {9}, LOAD, 0, STORE, x, LOAD, x, RET, 0);
            Due.returns(5 * (9 - x) + x, NO_ARGS, PUSH, 9, STORE, 5, PUSH, x, STORE, x, LOAD, 5, LOAD, x, SUB, 0, PUSH,
                    5, MUL, 0, LOAD, x, ADD, 0, POP, 0, PUSH, 5 * (9 - x) + x, RET, 0);
        }
        Due.returns(2, new int[] {1, 2}, PUSH, 9, STORE, 0, LOAD, 1, RET, 0);
        Due.returns(3, new int[] {8}, PUSH, 3, LOAD, 0, STORE, 1, RET, 0);
    }

    private static void op(int op, int a, int b, int want) {
        Due.returns(want, new int[] {a, b}, LOAD, 0, LOAD, 1, op, 0, RET, 0);
        Due.returns(want, new int[] {b}, PUSH, a, LOAD, 0, op, 0, RET, 0);
        Due.returns(want - 1000, new int[] {a}, PUSH, 1000, LOAD, 0, PUSH, b, op, 0, STORE, 3, STORE, 4, LOAD, 3, LOAD,
                4, SUB, 0, RET, 0);
    }

    private static void sums() {
        Doc.says("3 ADD: a b > a + b.");
        takesLays(ADD, 2, 1);
        op(ADD, 3, 4, 7);
        op(ADD, -3, 3, 0);
        Doc.says("4 SUB: a b > a - b.");
        takesLays(SUB, 2, 1);
        op(SUB, 3, 4, -1);
        op(SUB, 4, -3, 7);
        Doc.says("5 MUL: a b > a b.");
        takesLays(MUL, 2, 1);
        op(MUL, -3, 4, -12);
        op(MUL, 0, 4, 0);
    }

    private static void quotients() {
        Doc.says("6 DIV: a b > a by b, cut toward 0");
        takesLays(DIV, 2, 1);
        op(DIV, 7, 2, 3);
        op(DIV, -7, 2, -3);
        op(DIV, 7, -2, -3);
        op(DIV, -7, -2, 3);
        op(DIV, 1, 2, 0);
        op(DIV, 0, -5, 0);
        op(DIV, MOST, -1, -MOST);
        op(DIV, LEAST, MOST, -1);
        op(DIV, LEAST, LEAST, 1);
        Doc.says("(the least int by -1 is itself);");
        op(DIV, LEAST, -1, LEAST);
        Doc.says("TRAP 1 ZERO: b is 0.");
        for (int a : new int[] {LEAST, -1, 0, 1}) {
            Due.traps(1, 2, new int[] {a, 0}, LOAD, 0, LOAD, 1, DIV, 0, RET, 0);
            Due.traps(1, 2, new int[] {a}, LOAD, 0, PUSH, 0, DIV, 0, RET, 0);
        }
    }

    private static void comparing() {
        Doc.says("7 LESS: a b > 1, if a is below b, else 0.");
        takesLays(LESS, 2, 1);
        op(LESS, 1, 2, 1);
        op(LESS, 2, 1, 0);
        op(LESS, 2, 2, 0);
        op(LESS, LEAST, MOST, 1);
        op(LESS, MOST, LEAST, 0);
        op(LESS, -1, 0, 1);
        Doc.says("8 SAME: a b > 1, if they are alike, else 0.");
        takesLays(SAME, 2, 1);
        op(SAME, 2, 2, 1);
        op(SAME, 2, 3, 0);
        op(SAME, 3, 2, 0);
        op(SAME, LEAST, LEAST, 1);
        op(SAME, LEAST, MOST, 0);
        op(SAME, 100000, 100000, 1);
    }

    private static void jumping() {
        Doc.says("9 JUMP: goes on at X.");
        takesLays(JUMP, 0, 0);
        Due.returns(42, NO_ARGS, PUSH, 40, JUMP, 4, PUSH, 1, RET, 0, PUSH, 2, ADD, 0, RET, 0);
        Due.returns(6, NO_ARGS, JUMP, 3, PUSH, 6, RET, 0, JUMP, 1);
        Doc.says("10 WHEN: c >; goes on at X, if c is 0.");
        takesLays(WHEN, 1, 0);
        for (int c : new int[] {0, 1, -1, 2, 256, LEAST, MOST}) {
            Due.returns(c == 0 ? 38 : 42, new int[] {c}, PUSH, 40, LOAD, 0, WHEN, 6, PUSH, 2, ADD, 0, RET, 0, PUSH, 2,
                    SUB, 0, RET, 0);
        }
    }

    private static void calling() {
        Doc.says("11 CALL: the ARGS of METHOD X, in order > what it returns.");
        for (int args = 0; args <= 3; args++) {
            takesLays(CALL, args, 1);
            TemplateForge f = Due.with(args, 3, LOAD, 0, PUSH, 10, MUL, 0, LOAD, 1, ADD, 0, PUSH, 10, MUL, 0, LOAD, 2,
                    ADD, 0, RET, 0);
            Due.method(f, 3, 3, PUSH, 5, LOAD, 0, LOAD, 1, LOAD, 2, CALL, 0, SUB, 0, RET, 0);
            int[] want = {0, 300, 230, 123};
            for (int k = 0; k < 6; k++) {
                // what lies below the ARGS stays: SUB takes the return off of it
                int below = new int[] {3, 2, 1, 5}[args];
                Due.answers(f, 1, 1, 2, 3, below - want[args]);
            }
        }
        Doc.says("12 RET: v >; the METHOD returns v.");
        takesLays(RET, 1, 0);
        Due.returns(3, NO_ARGS, PUSH, 1, PUSH, 2, PUSH, 3, RET, 0);
        Due.returns(LEAST, new int[] {LEAST}, LOAD, 0, RET, 0);
    }

    private static void fieldOps() {
        Doc.says("13 FIELD: > FIELD X.");
        takesLays(FIELD, 0, 1);
        for (int x = 0; x < 8; x++) {
            TemplateForge f = Due.with(0, 0, PUSH, 100, FIELD, x, SUB, 0, RET, 0);
            f.keep(x, 30 + x);
            for (int k = 0; k < 5; k++) {
                Due.answers(f, 0, 0, 0, 0, 70 - x);
                Due.due("field(" + x + ")", f.field(x), 30 + x);
            }
        }
        Doc.says("14 KEEP: v >; FIELD X is v.");
        takesLays(KEEP, 1, 0);
        for (int x = 0; x < 8; x++) {
            TemplateForge f = Due.with(1, 1, PUSH, 6, LOAD, 0, KEEP, x, RET, 0);
            for (int k = 1; k <= 5; k++) {
                Due.answers(f, 0, k, 0, 0, 6);
                for (int y = 0; y < 8; y++) {
                    Due.due("field(" + y + ")", f.field(y), y == x ? k : 0);
                }
            }
            Due.returns(8, new int[] {8}, LOAD, 0, KEEP, x, PUSH, 1, FIELD, x, MUL, 0, RET, 0);
        }
    }

    private static void rowsAnew() {
        Doc.says("15 NEW: n >; ROW X is a new one of n ints, each 0;");
        takesLays(NEW, 1, 0);
        for (int x = 0; x < 4; x++) {
            TemplateForge f = Due.with(2, 2, LOAD, 0, NEW, x, PUSH, 4, RET, 0);
            Due.method(f, 2, 2, LOAD, 0, LOAD, 1, SET, x, PUSH, 0, RET, 0);
            for (int n : new int[] {3, 20, 20, 0, 1}) {
                Due.answers(f, 0, n, 0, 0, 4);
                for (int i = 0; i < n; i++) {
                    Due.due("item(" + x + ", " + i + ") of a new one", f.item(x, i), 0);
                    Due.due("run", f.run(1, i, 9, 0), 0);
                }
                for (int y = 0; y < 4; y++) {
                    Due.due("size(" + y + ")", f.size(y), y == x ? n : NONE);
                }
            }
        }
        Doc.says("TRAP 4 SIZE: n is below 0;");
        Due.returns(1, new int[] {0}, LOAD, 0, NEW, 2, PUSH, 1, RET, 0);
        for (int n : new int[] {-1, -2, LEAST}) {
            Due.traps(4, 1, new int[] {n}, LOAD, 0, NEW, 2, PUSH, 1, RET, 0);
        }
        Doc.says("5 ROOM: above 20.");
        Due.returns(1, new int[] {20}, LOAD, 0, NEW, 2, PUSH, 1, RET, 0);
        for (int n : new int[] {21, 22, MOST}) {
            Due.traps(5, 1, new int[] {n}, LOAD, 0, NEW, 2, PUSH, 1, RET, 0);
        }
    }

    private static void items() {
        Doc.says("16 GET: i > item i of ROW X;");
        takesLays(GET, 1, 1);
        for (int i = 0; i < 3; i++) {
            Due.returns(7 - 50 - i, new int[] {i}, PUSH, 3, NEW, 1, PUSH, 0, PUSH, 50, SET, 1, PUSH, 1, PUSH, 51, SET,
                    1, PUSH, 2, PUSH, 52, SET, 1, PUSH, 7, LOAD, 0, GET, 1, SUB, 0, RET, 0);
        }
        Doc.says("TRAP 2 NULL: it is LOST;");
        for (int i : new int[] {LEAST, -1, 0, 20, MOST}) {
            Due.traps(2, 1, new int[] {i}, LOAD, 0, GET, 3, RET, 0);
        }
        Doc.says("3 INDEX.");
        Due.returns(0, new int[] {2}, PUSH, 3, NEW, 3, LOAD, 0, GET, 3, RET, 0);
        for (int i : new int[] {LEAST, -1, 3, 4, MOST}) {
            Due.traps(3, 3, new int[] {i}, PUSH, 3, NEW, 3, LOAD, 0, GET, 3, RET, 0);
        }
        Due.traps(3, 3, new int[] {20}, PUSH, 20, NEW, 3, LOAD, 0, GET, 3, RET, 0);
        Due.traps(3, 3, new int[] {0}, PUSH, 0, NEW, 3, LOAD, 0, GET, 3, RET, 0);
        Doc.says("17 SET: i v >; item i of ROW X is v;");
        takesLays(SET, 2, 0);
        for (int i : new int[] {0, 1, 19}) {
            Due.returns(-8, new int[] {i, 8}, PUSH, 20, NEW, 0, PUSH, 0, LOAD, 0, LOAD, 1, SET, 0, LOAD, 0, GET, 0, SUB,
                    0, RET, 0);
        }
        Doc.says("TRAP as GET.");
        for (int i : new int[] {LEAST, -1, 3, 20, MOST}) {
            Due.traps(2, 2, new int[] {i}, LOAD, 0, PUSH, 1, SET, 3, PUSH, 1, RET, 0);
            Due.traps(3, 4, new int[] {i}, PUSH, 3, NEW, 3, LOAD, 0, PUSH, 1, SET, 3, PUSH, 1, RET, 0);
        }
        Due.traps(3, 4, new int[] {20}, PUSH, 20, NEW, 3, LOAD, 0, PUSH, 1, SET, 3, PUSH, 1, RET, 0);
        Due.traps(3, 4, new int[] {0}, PUSH, 0, NEW, 3, LOAD, 0, PUSH, 1, SET, 3, PUSH, 1, RET, 0);
    }

    private static void dupAndPop() {
        Doc.says("18 DUP: v > v v.");
        takesLays(DUP, 1, 2);
        Due.returns(3 - 49, new int[] {7}, PUSH, 3, LOAD, 0, DUP, 0, MUL, 0, SUB, 0, RET, 0);
        Due.returns(3 - 49, new int[] {3}, LOAD, 0, PUSH, 7, DUP, 0, MUL, 0, SUB, 0, RET, 0);
        Doc.says("19 POP: v >.");
        takesLays(POP, 1, 0);
        Due.returns(3, new int[] {7}, PUSH, 3, LOAD, 0, POP, 0, RET, 0);
        Due.returns(7, new int[] {7}, LOAD, 0, PUSH, 3, POP, 0, RET, 0);
    }

    private static void wrapping() {
        Doc.says("Sums and products wrap.");
        op(ADD, MOST, 1, LEAST);
        op(ADD, LEAST, LEAST, 0);
        op(SUB, LEAST, 1, MOST);
        op(SUB, 0, LEAST, LEAST);
        op(MUL, 65536, 65536, 0);
        op(MUL, MOST, 2, -2);
        op(MUL, LEAST, -1, LEAST);
    }
}
