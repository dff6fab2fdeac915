/** Terms, 1: LOOKING OVER a METHOD, a test for each of the document's words. */
final class SaysLook implements Ops {
    private SaysLook() {
    }

    static void all() {
        Doc.section("LOOKING OVER a METHOD", "======== 2 A RUN");
        begin();
        leastFirst();
        whatComesBehind();
        tooLittle();
        tooMuch();
        otherDepth();
        noInstruction();
        noNext();
        wrongX();
        order();
        onceEach();
        dead();
    }

    private static void begin() {
        Doc.says("LOOKING OVER a METHOD goes from INSTRUCTION 0 with an empty PILE,");
        TemplateForge f = Due.written(0, 0, PUSH, 1, RET, 0);
        Due.look(f, 0, 1, 0);
        Due.due("depth(0, 0)", f.depth(0, 0), 0);
        // ARGS are LOCALS, they don't lie on the PILE
        Due.look(Due.written(3, 6, RET, 0), 0, -100, 1);
    }

    private static void leastFirst() {
        Doc.says("by a list of places that wait (0 at first), the least first:");
        // two wait, both have FAULT 1: the next one is the least, though X was told first
        Due.faulty(1, 2, PUSH, 1, WHEN, 4, POP, 0, RET, 0, POP, 0);
        // X is the least
        Due.faulty(1, 1, JUMP, 4, POP, 0, RET, 0, RET, 0, PUSH, 1, WHEN, 1, RET, 0);
        // 8 waits from the second on, 6 comes to the list later and goes first
        Due.faulty(1, 6, PUSH, 0, WHEN, 8, PUSH, 0, WHEN, 6, PUSH, 0, RET, 0, POP, 0, RET, 0, POP, 0);
        // 1 comes to the list when 4 is gone through, and goes ahead of 5, though 5 is the next one
        Due.faulty(3, 2, JUMP, 3, PUSH, 1, JUMP, 5, PUSH, 1, WHEN, 1, POP, 0);
        // 0 alone is there at first: not what still waited when a FAULT was met, neither 4 nor 2
        TemplateForge f = Due.written(0, 0, PUSH, 1, WHEN, 4, POP, 0, RET, 0, POP, 0);
        Due.look(f, 0, -102, 1);
        f.method(0, 0);
        Due.write(f, 1, PUSH, 1, JUMP, 3, POP, 0, RET, 0, POP, 0);
        Due.look(f, 1, 1, 0);
        Due.due("depth(1, 2)", f.depth(1, 2), NONE);
        Due.due("depth(1, 4)", f.depth(1, 4), NONE);
    }

    private static void whatComesBehind() {
        Doc.says("at each what comes behind it (X of JUMP; X and the next one of WHEN; none of RET; else the next one)"
                + " has the depth that it leaves.");
        TemplateForge f = Due.written(0, 0, PUSH, 1, PUSH, 2, JUMP, 4, PUSH, 3, POP, 0, DUP, 0, WHEN, 9, PUSH, 4, RET,
                0, PUSH, 5, DUP, 0, RET, 0, PUSH, 6);
        Due.look(f, 0, 3, 0);
        int[] want = {0, 1, 2, NONE, 2, 1, 2, 1, 2, 1, 2, 3, NONE};
        for (int i = 0; i < want.length; i++) {
            Due.due("depth(0, " + i + ")", f.depth(0, i), want[i]);
        }
    }

    /** So many places are filled, then that INSTRUCTION, then an end that is right at any depth. */
    private static TemplateForge filled(int places, int op, int x) {
        TemplateForge f = new TemplateForge();
        f.method(0, 1);
        f.method(2, 2);
        for (int k = 0; k < places; k++) {
            Due.write(f, 0, PUSH, 0);
        }
        Due.write(f, 0, op, x, JUMP, places + 1);
        return f;
    }

    private static void tooLittle() {
        Doc.says("FAULTS, the first met: 1 the PILE has too little;");
        for (int op : new int[] {STORE, WHEN, RET, KEEP, NEW, GET, DUP, POP}) {
            Due.look(filled(0, op, op == WHEN ? 1 : 0), 0, -100, 1);
            Due.look(filled(1, op, op == WHEN ? 2 : 0), 0, op == DUP ? 2 : 1, 0);
        }
        for (int op : new int[] {ADD, SUB, MUL, DIV, LESS, SAME, SET, CALL}) {
            Due.look(filled(0, op, op == CALL ? 1 : 0), 0, -100, 1);
            Due.look(filled(1, op, op == CALL ? 1 : 0), 0, -101, 1);
            Due.look(filled(2, op, op == CALL ? 1 : 0), 0, 2, 0);
        }
        // a second FAULT is not met
        Due.faulty(1, 0, POP, 0, LOAD, 9);
    }

    private static void tooMuch() {
        Doc.says("2 more than 8;");
        for (int op : new int[] {PUSH, LOAD, FIELD, DUP}) {
            Due.look(filled(7, op, 0), 0, 8, 0);
            Due.look(filled(8, op, 0), 0, -108, 2);
        }
        // a CALL without ARGS leaves one more, with one ARG as many
        for (int args = 0; args <= 1; args++) {
            TemplateForge f = filled(8, CALL, 2);
            f.method(args, 1);
            Due.look(f, 0, args == 0 ? -108 : 8, args == 0 ? 2 : 0);
        }
        for (int op : new int[] {GET, ADD, POP}) {
            Due.look(filled(8, op, 0), 0, 8, 0);
        }
    }

    private static void otherDepth() {
        Doc.says("3 it comes to a place that has another depth already (told at the one it comes from);");
        Due.faulty(3, 1, PUSH, 1, JUMP, 0);
        Due.faulty(3, 1, PUSH, 1, WHEN, 1, PUSH, 1, RET, 0);
        Due.faulty(3, 3, PUSH, 1, WHEN, 4, PUSH, 1, PUSH, 2, RET, 0);
        Due.faulty(3, 2, PUSH, 1, WHEN, 3, PUSH, 1, RET, 0);
        Due.faulty(3, 2, PUSH, 1, PUSH, 1, WHEN, 0, POP, 0, RET, 0);
        // less than it has, and by a JUMP ahead of it
        Due.faulty(3, 4, PUSH, 1, PUSH, 1, POP, 0, POP, 0, JUMP, 1);
        // the same depth is none
        Due.right(0, JUMP, 0);
        Due.right(1, PUSH, 1, POP, 0, JUMP, 0);
        Due.right(1, PUSH, 1, WHEN, 4, PUSH, 1, JUMP, 5, PUSH, 2, RET, 0);
    }

    private static void noInstruction() {
        Doc.says("4 X of JUMP, WHEN is no INSTRUCTION;");
        for (int x : new int[] {-1, 4, 5, LEAST, MOST}) {
            Due.faulty(4, 0, JUMP, x, PUSH, 1, POP, 0, RET, 0);
            Due.faulty(4, 1, PUSH, 1, WHEN, x, PUSH, 0, RET, 0);
        }
        Due.right(1, PUSH, 1, JUMP, 2, RET, 0);
        Due.right(1, PUSH, 1, WHEN, 2, PUSH, 1, RET, 0);
        // it becomes one when it is written
        TemplateForge f = Due.written(0, 0, JUMP, 2, PUSH, 3);
        Due.look(f, 0, -100, 4);
        Due.write(f, 0, JUMP, 3);
        Due.look(f, 0, -102, 4);
        Due.write(f, 0, JUMP, 0);
        Due.look(f, 0, 0, 0);
    }

    private static void noNext() {
        Doc.says("5 the next one is none;");
        Due.faulty(5, 0, PUSH, 1);
        Due.faulty(5, 1, PUSH, 1, POP, 0);
        Due.faulty(5, 1, PUSH, 1, WHEN, 0);
        Due.faulty(5, 2, PUSH, 1, PUSH, 2, ADD, 0);
        Due.right(1, PUSH, 1, RET, 0);
        Due.right(0, JUMP, 0);
        // a 60th that has no next one, though no more can be written
        TemplateForge f = new TemplateForge();
        f.method(0, 0);
        for (int k = 0; k < 30; k++) {
            Due.write(f, 0, PUSH, 1, POP, 0);
        }
        Due.look(f, 0, -159, 5);
    }

    private static void wrongX() {
        Doc.says("6 X of LOAD, STORE is no LOCAL,");
        for (int locals = 0; locals <= 6; locals++) {
            for (int x : new int[] {-1, locals - 1, locals, LEAST, MOST}) {
                boolean isLocal = x >= 0 && x < locals;
                Due.look(Due.written(0, locals, LOAD, x, RET, 0), 0, isLocal ? 1 : -100, isLocal ? 0 : 6);
                Due.look(Due.written(0, locals, PUSH, 1, STORE, x, JUMP, 2), 0, isLocal ? 1 : -101, isLocal ? 0 : 6);
            }
        }
        Doc.says("of CALL no METHOD (told so far),");
        TemplateForge f = Due.written(0, 0, PUSH, 1, CALL, 1, RET, 0);
        Due.look(f, 0, -101, 6);
        f.method(0, 0);
        Due.look(f, 0, 2, 0);
        for (int x : new int[] {-1, 1, 8, LEAST, MOST}) {
            Due.faulty(6, 0, CALL, x, RET, 0);
        }
        Due.right(1, CALL, 0, RET, 0);
        Doc.says("of FIELD, KEEP no FIELD,");
        for (int x : new int[] {-1, 8, LEAST, MOST}) {
            Due.faulty(6, 0, FIELD, x, RET, 0);
            Due.faulty(6, 1, PUSH, 1, KEEP, x, JUMP, 2);
        }
        Due.right(1, FIELD, 0, KEEP, 7, FIELD, 7, KEEP, 0, JUMP, 4);
        Doc.says("of ROWS none.");
        for (int x : new int[] {-1, 4, LEAST, MOST}) {
            Due.faulty(6, 1, PUSH, 1, NEW, x, JUMP, 2);
            Due.faulty(6, 1, PUSH, 1, GET, x, RET, 0);
            Due.faulty(6, 2, PUSH, 1, PUSH, 1, SET, x, JUMP, 3);
        }
        Due.right(2, PUSH, 0, NEW, 3, PUSH, 0, GET, 3, GET, 0, PUSH, 0, SET, 3, PUSH, 0, PUSH, 0, SET, 0, PUSH, 0, NEW,
                0, JUMP, 12);
    }

    private static void order() {
        Doc.says("At one INSTRUCTION: 6, 1, 2, then of X (ahead of the next one) 4, 3, then 5, 3");
        // 6 ahead of 1, of 2, of 3, of 5
        Due.faulty(6, 0, STORE, 9, JUMP, 1);
        Due.faulty(6, 0, CALL, 9, JUMP, 1);
        Due.look(filled(8, LOAD, 9), 0, -108, 6);
        Due.faulty(6, 3, PUSH, 1, WHEN, 4, PUSH, 1, LOAD, 9, RET, 0);
        Due.faulty(6, 0, LOAD, 9);
        // 1 ahead of 4, of 3, of 5
        Due.faulty(1, 0, WHEN, 9, PUSH, 1, RET, 0);
        Due.faulty(1, 2, PUSH, 1, WHEN, 3, POP, 0, PUSH, 1, RET, 0);
        Due.faulty(1, 0, POP, 0);
        // 2 ahead of 3, of 5
        Due.look(Due.written(0, 0, PUSH, 0, PUSH, 0, PUSH, 0, PUSH, 0, PUSH, 0, PUSH, 0, PUSH, 0, PUSH, 0, WHEN, 11,
                PUSH, 0, PUSH, 0, JUMP, 11), 0, -110, 2);
        Due.faulty(2, 8, PUSH, 0, PUSH, 0, PUSH, 0, PUSH, 0, PUSH, 0, PUSH, 0, PUSH, 0, PUSH, 0, PUSH, 0);
        // 4 of X ahead of 5; 3 of X ahead of 5; 4 of X ahead of 3 of the next one
        Due.faulty(4, 1, PUSH, 1, WHEN, 9);
        Due.faulty(3, 2, PUSH, 1, PUSH, 1, WHEN, 0);
        Due.faulty(4, 4, PUSH, 1, WHEN, 5, PUSH, 1, PUSH, 1, WHEN, 9, PUSH, 1, RET, 0);
        // X alone is another depth's, the next one alone is
        Due.faulty(3, 3, PUSH, 1, WHEN, 2, PUSH, 1, WHEN, 1, PUSH, 1, RET, 0);
        Due.faulty(3, 4, PUSH, 1, WHEN, 5, PUSH, 1, PUSH, 1, WHEN, 6, PUSH, 1, RET, 0);
    }

    private static void onceEach() {
        Doc.says("(each place is gone through once; it has the depth with which it was come to first).");
        // 5 is come to with 0 by 1, then with 0 by 3, then by itself
        TemplateForge f = Due.written(0, 0, PUSH, 1, WHEN, 5, PUSH, 2, WHEN, 5, JUMP, 0, PUSH, 3, WHEN, 5, JUMP, 5);
        Due.look(f, 0, 1, 0);
        Due.due("depth(0, 5)", f.depth(0, 5), 0);
        // 4 is come to with 0 first, by X; the one that comes to it with 1 has the FAULT
        Due.faulty(3, 3, PUSH, 1, WHEN, 4, PUSH, 1, WHEN, 3, PUSH, 2, RET, 0);
        Due.faulty(3, 2, PUSH, 1, WHEN, 3, PUSH, 1, PUSH, 2, RET, 0);
        // many that come to one place, all with the same depth
        Due.right(1, PUSH, 0, WHEN, 8, PUSH, 0, WHEN, 8, PUSH, 0, WHEN, 8, PUSH, 0, WHEN, 8, JUMP, 0);
    }

    private static void dead() {
        Doc.says("INSTRUCTIONS it never came to are DEAD.");
        TemplateForge f = Due.written(0, 0, JUMP, 3, POP, 0, LOAD, 9, PUSH, 1, RET, 0, JUMP, 99, PUSH, 0, JUMP, 3, WHEN,
                -1, PUSH, 0);
        Due.look(f, 0, 1, 0);
        int[] want = {0, NONE, NONE, 0, 1, NONE, NONE, NONE, NONE, NONE};
        for (int i = 0; i < want.length; i++) {
            Due.due("depth(0, " + i + ")", f.depth(0, i), want[i]);
        }
    }
}
