/** Promises 11 to 13, and 18 of runs: run, answer, trap, count. */
public final class RunsTest {
    private static final int PUSH = 0, LOAD = 1, STORE = 2, ADD = 3, SUB = 4, MUL = 5, DIV = 6, LESS = 7, SAME = 8;
    private static final int JUMP = 9, WHEN = 10, CALL = 11, RET = 12, FIELD = 13, KEEP = 14, NEW = 15, GET = 16;
    private static final int SET = 17, DUP = 18, POP = 19;
    private static final int LEAST = Integer.MIN_VALUE, MOST = Integer.MAX_VALUE;

    public static void main(String[] args) {
        refusals();
        eightyRuns();
        sums();
        otherOps();
        argsAndLocals();
        calls();
        trapsOfNumbers();
        trapsOfRows();
        trapInside();
        whatStays();
        stepsAndDeep();
        spentByJumps();
        spentByWhen();
        spentByCalls();
        Due.end();
    }

    private static void refusals() {
        TemplateForge f = new TemplateForge();
        Due.due("run without METHODS", f.run(0, 0, 0, 0), -2);
        f.method(0, 0);
        Due.due("run(-1)", f.run(-1, 0, 0, 0), -2);
        Due.due("run(1)", f.run(1, 0, 0, 0), -2);
        Due.due("run not looked over", f.run(0, 0, 0, 0), -3);
        Due.write(f, 0, PUSH, 8, RET, 0);
        Due.due("run still not looked over", f.run(0, 0, 0, 0), -3);
        f.look(0);
        Due.due("run", f.run(0, 0, 0, 0), 0);
        f.method(0, 0);
        Due.due("run with another not looked over", f.run(0, 0, 0, 0), -3);
        Due.due("run of another not looked over", f.run(1, 0, 0, 0), -3);
        Due.due("run BAD ahead of STATE", f.run(2, 0, 0, 0), -2);
        Due.due("count(1)", f.count(1), 1);
        Due.due("count(3) of the latest run", f.count(3), 1);
        Due.due("answer() of the latest run", f.answer(), 8);
        Due.due("of(0, 1)", f.of(0, 1), 1);
        Due.write(f, 1, ADD, 0);
        f.look(1);
        Due.due("run with another of FAULT 1", f.run(0, 0, 0, 0), -3);
        for (int bad : new int[] {-1, 4, LEAST, MOST}) {
            Due.due("trap(" + bad + ")", f.trap(bad), -2);
        }
        for (int bad : new int[] {-1, 6, LEAST, MOST}) {
            Due.due("count(" + bad + ")", f.count(bad), -2);
        }
    }

    private static void eightyRuns() {
        TemplateForge f = new TemplateForge();
        Due.method(f, 1, 1, LOAD, 0, RET, 0);
        for (int k = 1; k <= 80; k++) {
            Due.due("run " + k, f.run(0, k, 0, 0), 0);
            Due.due("answer " + k, f.answer(), k);
            Due.due("count(1)", f.count(1), k);
        }
        Due.due("run 81", f.run(0, 81, 0, 0), -4);
        Due.due("answer stays", f.answer(), 80);
        Due.due("count(1) stays", f.count(1), 80);
        Due.due("count(2) stays", f.count(2), 1);
        Due.due("run BAD ahead of FULL", f.run(1, 0, 0, 0), -2);
        f.method(0, 0);
        Due.due("run STATE ahead of FULL", f.run(0, 0, 0, 0), -3);
        Due.due("of(0, 4)", f.of(0, 4), 77);
    }

    private static void sums() {
        TemplateForge f = new TemplateForge();
        for (int op = ADD; op <= SAME; op++) {
            Due.method(f, 2, 2, LOAD, 0, LOAD, 1, op, 0, RET, 0);
        }
        int[][] asked = {
            {0, 3, 4, 7}, {0, MOST, 1, LEAST}, {1, 3, 4, -1}, {1, LEAST, 1, MOST}, {2, -3, 4, -12},
            {2, 65536, 65536, 0}, {2, MOST, 2, -2}, {3, 7, 2, 3}, {3, -7, 2, -3}, {3, 7, -2, -3}, {3, -7, -2, 3},
            {3, LEAST, -1, LEAST}, {3, 0, 5, 0}, {4, 1, 2, 1}, {4, 2, 1, 0}, {4, 2, 2, 0}, {4, LEAST, MOST, 1},
            {4, MOST, LEAST, 0}, {5, 2, 2, 1}, {5, 2, 3, 0}, {5, LEAST, LEAST, 1}, {5, 1000000, 1000000, 1}
        };
        for (int[] a : asked) {
            Due.due("run of op " + (ADD + a[0]), f.run(a[0], a[1], a[2], 0), 0);
            Due.due(a[1] + " op " + (ADD + a[0]) + " " + a[2], f.answer(), a[3]);
        }
    }

    private static void otherOps() {
        TemplateForge f = new TemplateForge();
        Due.method(f, 1, 2, LOAD, 0, DUP, 0, MUL, 0, STORE, 1, PUSH, 9, PUSH, 8, POP, 0, LOAD, 1, SUB, 0, RET, 0);
        Due.method(f, 1, 1, LOAD, 0, KEEP, 3, FIELD, 3, FIELD, 4, ADD, 0, RET, 0);
        Due.method(f, 1, 1, LOAD, 0, WHEN, 4, PUSH, 10, RET, 0, PUSH, 20, RET, 0);
        f.keep(4, 1000);
        Due.due("run DUP, POP", f.run(0, 5, 0, 0), 0);
        Due.due("answer", f.answer(), -16);
        Due.due("run FIELD, KEEP", f.run(1, 7, 0, 0), 0);
        Due.due("answer", f.answer(), 1007);
        Due.due("field(3)", f.field(3), 7);
        for (int[] a : new int[][] {{0, 20}, {1, 10}, {-1, 10}, {LEAST, 10}}) {
            Due.due("run WHEN", f.run(2, a[0], 0, 0), 0);
            Due.due("answer of WHEN " + a[0], f.answer(), a[1]);
        }
    }

    private static void argsAndLocals() {
        TemplateForge f = new TemplateForge();
        for (int args = 0; args <= 3; args++) {
            Due.method(f, args, 3, LOAD, 0, PUSH, 100, MUL, 0, LOAD, 1, PUSH, 10, MUL, 0, ADD, 0, LOAD, 2, ADD, 0,
                    PUSH, 9, STORE, 2, RET, 0);
        }
        int[] want = {0, 100, 120, 123};
        for (int k = 0; k < 6; k++) {
            for (int args = 0; args <= 3; args++) {
                Due.due("run with " + args + " ARGS", f.run(args, 1, 2, 3), 0);
                Due.due("answer with " + args + " ARGS", f.answer(), want[args]);
            }
        }
    }

    private static void calls() {
        TemplateForge f = new TemplateForge();
        Due.method(f, 3, 3, LOAD, 0, PUSH, 100, MUL, 0, LOAD, 1, PUSH, 10, MUL, 0, ADD, 0, LOAD, 2, ADD, 0, RET, 0);
        Due.method(f, 0, 0, PUSH, 5000, PUSH, 1, PUSH, 2, PUSH, 3, CALL, 0, ADD, 0, RET, 0);
        Due.method(f, 1, 2, PUSH, 7, STORE, 1, CALL, 1, LOAD, 0, ADD, 0, LOAD, 1, ADD, 0, RET, 0);
        for (int k = 1; k <= 6; k++) {
            Due.due("run", f.run(2, 10000, 0, 0), 0);
            Due.due("answer", f.answer(), 15130);
            Due.due("count(2)", f.count(2), 3);
            Due.due("count(3)", f.count(3), 3);
            Due.due("count(4)", f.count(4), k <= 3 ? 0 : 3);
        }
        // what a call leaves below what it returns is not seen by who called it
        int leaves = Due.method(f, 0, 0, PUSH, 1, PUSH, 2, PUSH, 3, RET, 0);
        int asks = Due.method(f, 0, 0, PUSH, 40, CALL, leaves, SUB, 0, RET, 0);
        for (int k = 0; k < 5; k++) {
            f.run(asks, 0, 0, 0);
            Due.due("answer", f.answer(), 37);
        }
    }

    private static void dueTrap(TemplateForge f, int number, int method, int instruction, int open) {
        Due.due("trap(0)", f.trap(0), number);
        Due.due("trap(1)", f.trap(1), method);
        Due.due("trap(2)", f.trap(2), instruction);
        Due.due("trap(3)", f.trap(3), open);
        Due.due("answer() without one", f.answer(), 0);
    }

    private static void trapsOfNumbers() {
        TemplateForge f = new TemplateForge();
        Due.method(f, 2, 2, LOAD, 0, LOAD, 1, DIV, 0, RET, 0);
        for (int k = 0; k < 6; k++) {
            Due.due("run by 0", f.run(0, 1, 0, 0), 1);
            dueTrap(f, 1, 0, 2, 1);
            Due.due("run 0 by 0", f.run(0, 0, 0, 0), 1);
            dueTrap(f, 1, 0, 2, 1);
            Due.due("run by 1", f.run(0, 6, 2, 0), 0);
            Due.due("answer", f.answer(), 3);
            Due.due("trap(0) is gone", f.trap(0), 0);
            Due.due("trap(1) is gone", f.trap(1), 0);
            Due.due("trap(2) is gone", f.trap(2), 0);
            Due.due("trap(3) is gone", f.trap(3), 0);
        }
        // refused runs leave the TRAP
        f.run(0, 1, 0, 0);
        f.run(1, 1, 0, 0);
        dueTrap(f, 1, 0, 2, 1);
    }

    private static void trapsOfRows() {
        TemplateForge f = new TemplateForge();
        int make = Due.method(f, 1, 1, LOAD, 0, NEW, 3, PUSH, 0, RET, 0);
        int get = Due.method(f, 1, 1, LOAD, 0, GET, 3, RET, 0);
        int set = Due.method(f, 2, 2, LOAD, 0, LOAD, 1, SET, 3, LOAD, 1, RET, 0);
        for (int k = 0; k < 3; k++) {
            f.lose(3);
            Due.due("GET of a lost one", f.run(get, 0, 0, 0), 1);
            dueTrap(f, 2, get, 1, 1);
            Due.due("SET of a lost one", f.run(set, 0, 0, 0), 1);
            dueTrap(f, 2, set, 2, 1);
            Due.due("NEW of -1", f.run(make, -1, 0, 0), 1);
            dueTrap(f, 4, make, 1, 1);
            Due.due("NEW of the least", f.run(make, LEAST, 0, 0), 1);
            dueTrap(f, 4, make, 1, 1);
            Due.due("NEW of 21", f.run(make, 21, 0, 0), 1);
            dueTrap(f, 5, make, 1, 1);
            Due.due("NEW of the most", f.run(make, MOST, 0, 0), 1);
            dueTrap(f, 5, make, 1, 1);
            Due.due("size(3)", f.size(3), -1);
            Due.due("NEW of 20", f.run(make, 20, 0, 0), 0);
            Due.due("size(3)", f.size(3), 20);
            for (int bad : new int[] {-1, 20, LEAST, MOST}) {
                Due.due("GET " + bad, f.run(get, bad, 0, 0), 1);
                dueTrap(f, 3, get, 1, 1);
                Due.due("SET " + bad, f.run(set, bad, 1, 0), 1);
                dueTrap(f, 3, set, 2, 1);
            }
            Due.due("SET 19", f.run(set, 19, 77 + k, 0), 0);
            Due.due("GET 19", f.run(get, 19, 0, 0), 0);
            Due.due("answer", f.answer(), 77 + k);
            Due.due("item(3, 19)", f.item(3, 19), 77 + k);
            Due.due("NEW of -1 leaves the ROW", f.run(make, -1, 0, 0), 1);
            Due.due("size(3)", f.size(3), 20);
            Due.due("NEW of 0", f.run(make, 0, 0, 0), 0);
            Due.due("size(3)", f.size(3), 0);
            Due.due("GET 0 of 0", f.run(get, 0, 0, 0), 1);
            dueTrap(f, 3, get, 1, 1);
        }
    }

    private static void trapInside() {
        TemplateForge f = new TemplateForge();
        Due.method(f, 1, 1, PUSH, 1, PUSH, 12, LOAD, 0, DIV, 0, ADD, 0, RET, 0);
        Due.method(f, 1, 1, LOAD, 0, CALL, 0, RET, 0);
        Due.method(f, 1, 1, PUSH, 0, POP, 0, LOAD, 0, CALL, 1, RET, 0);
        for (int k = 0; k < 6; k++) {
            Due.due("run(2, 0)", f.run(2, 0, 0, 0), 1);
            dueTrap(f, 1, 0, 3, 3);
            Due.due("run(1, 0)", f.run(1, 0, 0, 0), 1);
            dueTrap(f, 1, 0, 3, 2);
            Due.due("run(0, 0)", f.run(0, 0, 0, 0), 1);
            dueTrap(f, 1, 0, 3, 1);
            Due.due("run(2, 4)", f.run(2, 4, 0, 0), 0);
            Due.due("answer", f.answer(), 4);
        }
    }

    private static void whatStays() {
        TemplateForge f = new TemplateForge();
        Due.method(f, 1, 1, LOAD, 0, KEEP, 2, PUSH, 3, NEW, 0, PUSH, 1, LOAD, 0, SET, 0, PUSH, 1, PUSH, 0, DIV, 0,
                RET, 0);
        for (int k = 1; k <= 5; k++) {
            Due.due("run to a TRAP", f.run(0, k, 0, 0), 1);
            dueTrap(f, 1, 0, 9, 1);
            Due.due("field(2) stays", f.field(2), k);
            Due.due("size(0) stays", f.size(0), 3);
            Due.due("item(0, 1) stays", f.item(0, 1), k);
        }
    }

    /** METHOD 0 goes its ARG's times down: so many calls and one are open at once. */
    private static void stepsAndDeep() {
        TemplateForge f = new TemplateForge();
        Due.method(f, 1, 1, LOAD, 0, WHEN, 7, LOAD, 0, PUSH, -1, ADD, 0, CALL, 0, RET, 0, PUSH, 5, RET, 0);
        Due.due("run 15 down", f.run(0, 15, 0, 0), 0);
        Due.due("answer", f.answer(), 5);
        Due.due("count(2)", f.count(2), 16);
        Due.due("count(3)", f.count(3), 16);
        Due.due("count(4)", f.count(4), 13);
        Due.due("run 16 down", f.run(0, 16, 0, 0), 1);
        dueTrap(f, 6, 0, 5, 16);
        Due.due("count(2)", f.count(2), 16);
        Due.due("count(3)", f.count(3), 16);
        Due.due("count(4)", f.count(4), 16);
        Due.due("run 0 down", f.run(0, 0, 0, 0), 0);
        Due.due("count(2)", f.count(2), 1);
        // back: a STEP; forward: none
        int loop = Due.method(f, 1, 1, LOAD, 0, WHEN, 7, LOAD, 0, PUSH, -1, ADD, 0, STORE, 0, JUMP, 0, PUSH, 3, RET, 0);
        int hops = Due.method(f, 0, 0, JUMP, 1, PUSH, 0, WHEN, 3, PUSH, 0, WHEN, 5, PUSH, 1, WHEN, 0, PUSH, 4, RET, 0);
        for (int k = 0; k < 6; k++) {
            Due.due("run of a loop", f.run(loop, 9, 0, 0), 0);
            Due.due("count(2) of a loop", f.count(2), 10);
            Due.due("count(3) of a loop", f.count(3), 1);
            Due.due("run of hops", f.run(hops, 0, 0, 0), 0);
            Due.due("count(2) of hops", f.count(2), 1);
        }
    }

    private static void spentByJumps() {
        TemplateForge f = new TemplateForge();
        int self = Due.method(f, 0, 0, JUMP, 0);
        int loop = Due.method(f, 1, 1, LOAD, 0, WHEN, 10, FIELD, 0, PUSH, 1, ADD, 0, KEEP, 0, LOAD, 0, PUSH, -1, ADD, 0,
                JUMP, 13, PUSH, 6, RET, 0, RET, 0, STORE, 0, JUMP, 0);
        for (int k = 0; k < 5; k++) {
            Due.due("run for ever", f.run(self, 0, 0, 0), 3);
            Due.due("count(2)", f.count(2), 1501);
            Due.due("count(3)", f.count(3), 1);
            dueTrap(f, 0, 0, 0, 0);
            f.keep(0, 0);
            Due.due("run 1499 back", f.run(loop, 1499, 0, 0), 0);
            Due.due("answer", f.answer(), 6);
            Due.due("count(2)", f.count(2), 1500);
            Due.due("field(0)", f.field(0), 1499);
            f.keep(0, 0);
            Due.due("run 1500 back", f.run(loop, 1500, 0, 0), 3);
            Due.due("count(2)", f.count(2), 1501);
            Due.due("field(0) stays", f.field(0), 1500);
            dueTrap(f, 0, 0, 0, 0);
        }
    }

    private static void spentByWhen() {
        TemplateForge f = new TemplateForge();
        int loop = Due.method(f, 1, 1, LOAD, 0, PUSH, -1, ADD, 0, STORE, 0, LOAD, 0, PUSH, 0, SAME, 0, WHEN, 0, PUSH, 2,
                RET, 0);
        int sure = Due.method(f, 0, 0, PUSH, 0, WHEN, 0, PUSH, 2, RET, 0);
        for (int k = 0; k < 5; k++) {
            Due.due("run 1499 back", f.run(loop, 1500, 0, 0), 0);
            Due.due("count(2)", f.count(2), 1500);
            Due.due("run 1500 back", f.run(loop, 1501, 0, 0), 3);
            Due.due("count(2)", f.count(2), 1501);
            Due.due("run back for sure", f.run(sure, 0, 0, 0), 3);
            Due.due("count(2)", f.count(2), 1501);
        }
        Due.due("of(sure, 0)", f.of(sure, 0), 1);
    }

    /** Each time around is a call and a JUMP back: the 1501st STEP is a JUMP. */
    private static void spentByCalls() {
        TemplateForge f = new TemplateForge();
        Due.method(f, 0, 0, FIELD, 0, PUSH, 1, ADD, 0, KEEP, 0, PUSH, 0, RET, 0);
        int loop = Due.method(f, 0, 0, CALL, 0, POP, 0, JUMP, 0);
        Due.due("run for ever", f.run(loop, 0, 0, 0), 3);
        Due.due("count(2)", f.count(2), 1501);
        Due.due("count(3)", f.count(3), 751);
        Due.due("count(4)", f.count(4), 747);
        Due.due("field(0)", f.field(0), 750);
        Due.due("of(0, 1)", f.of(0, 1), 3);
        Due.due("of(0, 4)", f.of(0, 4), 747);
    }
}
