/** Terms: which way is gone, and 2: A RUN, a test for each of the document's words. */
final class SaysRuns implements Ops {
    /** The most STEPS that a run may take. */
    private static final int STEPS = 1500;

    private SaysRuns() {
    }

    static void all() {
        Doc.section("Which way is gone", "======== 1 PROGRAMS");
        whichWay();
        Doc.section("======== 2 A RUN", "======== 3 HOT");
        aRun();
        itsArgs();
        otherLocals();
        stepsOfCalls();
        stepsOfJumps();
        noSteps();
        spentByJump();
        spentByWhen();
        spentByCall();
        sixteenOpen();
        deep();
        trapEnds();
        whatStays();
    }

    private static void whichWay() {
        Doc.says("Which way is gone is told, what comes of it is the same.");
        TemplateForge f = Due.with(2, 3, LOAD, 0, FIELD, 1, ADD, 0, STORE, 2, LOAD, 2, NEW, 0, LOAD, 1, LOAD, 2, SET, 0,
                LOAD, 1, GET, 0, DUP, 0, KEEP, 2, LOAD, 1, DIV, 0, RET, 0);
        int[] byCode = {0, 0, 0, 1, 1, 1, 0};
        for (int k = 0; k < 7; k++) {
            f.keep(1, k == 5 ? 4 : 3);
            Due.answers(f, 0, 5, 2, 0, 4);
            Due.due("count(4)", f.count(4), byCode[k]);
            Due.due("size(0)", f.size(0), k == 5 ? 9 : 8);
            Due.due("item(0, 2)", f.item(0, 2), k == 5 ? 9 : 8);
            Due.due("field(2)", f.field(2), k == 5 ? 9 : 8);
            Due.due("count(2)", f.count(2), 1);
        }
    }

    private static void aRun() {
        Doc.says("A RUN calls a METHOD.");
        TemplateForge f = Due.with(0, 0, PUSH, 4, RET, 0);
        Due.method(f, 0, 0, PUSH, 5, RET, 0);
        for (int k = 0; k < 5; k++) {
            Due.answers(f, k % 2, 0, 0, 0, 4 + k % 2);
            Due.due("count(3)", f.count(3), 1);
        }
        Due.due("of(0, 1)", f.of(0, 1), 3);
        Due.due("of(1, 1)", f.of(1, 1), 2);
    }

    private static void itsArgs() {
        Doc.says("A call begins with its ARGS,");
        for (int args = 0; args <= 3; args++) {
            TemplateForge f = Due.with(args, 3, LOAD, 0, PUSH, 100, MUL, 0, LOAD, 1, PUSH, 10, MUL, 0, ADD, 0, LOAD, 2,
                    ADD, 0, RET, 0);
            Due.method(f, 0, 0, PUSH, 7, PUSH, 8, PUSH, 9, CALL, 0, RET, 0);
            int[] ofRun = {0, 400, 450, 456}, ofCall = {0, 900, 890, 789};
            for (int k = 0; k < 6; k++) {
                Due.answers(f, 0, 4, 5, 6, ofRun[args]);
                Due.answers(f, 1, 1, 2, 3, ofCall[args]);
            }
        }
        TemplateForge f = Due.with(3, 3, LOAD, 0, LOAD, 1, SUB, 0, LOAD, 2, SUB, 0, RET, 0);
        Due.answers(f, 0, LEAST, 0, 1, MOST);
        Due.answers(f, 0, MOST, LEAST, -1, 0);
    }

    private static void otherLocals() {
        Doc.says("all other LOCALS 0.");
        TemplateForge f = new TemplateForge();
        for (int m = 0; m < 2; m++) {
            Due.method(f, 1, 6, LOAD, 1, LOAD, 2, ADD, 0, LOAD, 3, ADD, 0, LOAD, 4, ADD, 0, LOAD, 5, ADD, 0, PUSH, 9,
                    STORE, 0, PUSH, 8, STORE, 1, PUSH, 7, STORE, 2, PUSH, 6, STORE, 3, PUSH, 5, STORE, 4, PUSH, 4,
                    STORE, 5, PUSH, 1, PUSH, 1, PUSH, 1, PUSH, 1, POP, 0, POP, 0, POP, 0, ADD, 0, RET, 0);
        }
        Due.method(f, 0, 0, PUSH, 3, CALL, 0, PUSH, 3, CALL, 1, ADD, 0, RET, 0);
        for (int k = 0; k < 6; k++) {
            Due.answers(f, k % 2, 3, 3, 3, 1);
            Due.answers(f, 2, 3, 3, 3, 2);
        }
    }

    private static void stepsOfCalls() {
        Doc.says("STEPS: each call as it begins,");
        TemplateForge f = Due.with(0, 0, PUSH, 1, RET, 0);
        Due.method(f, 0, 0, CALL, 0, CALL, 0, ADD, 0, RET, 0);
        Due.method(f, 0, 0, CALL, 1, CALL, 1, ADD, 0, CALL, 0, ADD, 0, RET, 0);
        for (int k = 0; k < 6; k++) {
            int[] steps = {1, 3, 8}, answers = {1, 2, 5};
            for (int m = 0; m < 3; m++) {
                Due.answers(f, m, 0, 0, 0, answers[m]);
                Due.due("count(2)", f.count(2), steps[m]);
                Due.due("count(3)", f.count(3), steps[m]);
            }
        }
        // one that a TRAP ends is one as well
        f = Due.with(0, 0, PUSH, 1, PUSH, 0, DIV, 0, RET, 0);
        Due.method(f, 0, 0, CALL, 0, RET, 0);
        Due.runs(f, 1, 1, 0, 0, 0, 1);
        Due.due("count(2)", f.count(2), 2);
    }

    private static void stepsOfJumps() {
        Doc.says("each JUMP, WHEN that goes on at its own place or one ahead:");
        // a JUMP back, once for each of its ARG; a WHEN back, once less
        TemplateForge f = Due.with(1, 1, LOAD, 0, WHEN, 7, LOAD, 0, PUSH, -1, ADD, 0, STORE, 0, JUMP, 0, PUSH, 3, RET,
                0);
        Due.method(f, 1, 1, LOAD, 0, PUSH, -1, ADD, 0, STORE, 0, LOAD, 0, PUSH, 0, SAME, 0, WHEN, 0, PUSH, 4, RET, 0);
        for (int k = 0; k < 6; k++) {
            Due.answers(f, 0, 9, 0, 0, 3);
            Due.due("count(2) of JUMPS", f.count(2), 10);
            Due.answers(f, 1, 9, 0, 0, 4);
            Due.due("count(2) of WHENS", f.count(2), 9);
        }
        // by only one INSTRUCTION ahead
        f = Due.with(0, 0, FIELD, 0, WHEN, 4, PUSH, 5, RET, 0, PUSH, 1, KEEP, 0, JUMP, 8, JUMP, 0, JUMP, 7);
        f.keep(0, 1);
        Due.answers(f, 0, 0, 0, 0, 5);
        Due.due("count(2)", f.count(2), 1);
        for (int k = 0; k < 5; k++) {
            f.keep(0, 0);
            Due.answers(f, 0, 0, 0, 0, 5);
            Due.due("count(2) of two JUMPS back", f.count(2), 3);
        }
        // its own place: else it would never end
        f = Due.with(0, 0, JUMP, 0);
        for (int k = 0; k < 5; k++) {
            Due.runs(f, 1, 0, 0, 0, 0, 3);
            Due.due("count(2) of its own place", f.count(2), STEPS + 1);
        }
        // a WHEN whose c is KNOWN to be 0 goes back as well
        f = Due.with(0, 0, FIELD, 0, PUSH, 1, ADD, 0, KEEP, 0, PUSH, 0, WHEN, 0, PUSH, 2, RET, 0);
        for (int k = 0; k < 5; k++) {
            f.keep(0, 0);
            Due.runs(f, 1, 0, 0, 0, 0, 3);
            Due.due("field(0)", f.field(0), STEPS);
        }
    }

    private static void noSteps() {
        Doc.says("goes on at its own place or one ahead:");
        // forward: none, not even by one; a WHEN that does not go: none
        TemplateForge f = Due.with(0, 0, JUMP, 1, PUSH, 0, WHEN, 3, PUSH, 0, WHEN, 7, PUSH, 4, RET, 0, JUMP, 9, JUMP, 0,
                PUSH, 1, WHEN, 0, FIELD, 0, PUSH, 1, ADD, 0, WHEN, 0, PUSH, 4, RET, 0);
        for (int k = 0; k < 6; k++) {
            Due.answers(f, 0, 0, 0, 0, 4);
            Due.due("count(2)", f.count(2), 1);
        }
    }

    private static void dueSpent(TemplateForge f) {
        Due.due("count(2)", f.count(2), STEPS + 1);
        Due.trap(f, 0, 0, 0, 0);
    }

    private static void spentByJump() {
        Doc.says("the 1501st of a run ends all (SPENT).");
        // FIELD 0 tells how often it went around; the JUMP back is the last of each
        TemplateForge f = Due.with(1, 1, LOAD, 0, WHEN, 11, LOAD, 0, PUSH, -1, ADD, 0, STORE, 0, FIELD, 0, PUSH, 1, ADD,
                0, KEEP, 0, JUMP, 0, PUSH, 6, RET, 0);
        for (int k = 0; k < 5; k++) {
            f.keep(0, 0);
            Due.answers(f, 0, STEPS - 1, 0, 0, 6);
            Due.due("count(2)", f.count(2), STEPS);
            f.keep(0, 0);
            Due.runs(f, 1, 0, STEPS, 0, 0, 3);
            Due.due("field(0)", f.field(0), STEPS);
            dueSpent(f);
            // the STEPS of the run ahead don't count any more
            Due.answers(f, 0, 1, 0, 0, 6);
            Due.due("count(2)", f.count(2), 2);
        }
    }

    private static void spentByWhen() {
        Doc.says("the 1501st of a run ends all (SPENT).");
        TemplateForge f = Due.with(1, 1, LOAD, 0, PUSH, -1, ADD, 0, STORE, 0, FIELD, 0, PUSH, 1, ADD, 0, KEEP, 0, LOAD,
                0, PUSH, 0, SAME, 0, WHEN, 0, PUSH, 2, RET, 0);
        for (int k = 0; k < 5; k++) {
            f.keep(0, 0);
            Due.answers(f, 0, STEPS, 0, 0, 2);
            Due.due("count(2)", f.count(2), STEPS);
            f.keep(0, 0);
            Due.runs(f, 1, 0, STEPS + 1, 0, 0, 3);
            Due.due("field(0)", f.field(0), STEPS);
            dueSpent(f);
        }
    }

    /** METHOD 0 adds 1 to FIELD 0; METHOD m calls it m times, then goes around with two calls and a JUMP. */
    private static void spentByCall() {
        Doc.says("the 1501st of a run ends all (SPENT).");
        for (int first = 0; first < 3; first++) {
            TemplateForge f = Due.with(0, 0, FIELD, 0, PUSH, 1, ADD, 0, DUP, 0, KEEP, 0, RET, 0);
            int m = f.method(0, 0);
            for (int k = 0; k < first; k++) {
                Due.write(f, m, CALL, 0, POP, 0);
            }
            Due.write(f, m, CALL, 0, POP, 0, CALL, 0, POP, 0, JUMP, 2 * first);
            Due.look(f, m, 1, 0);
            for (int k = 0; k < 5; k++) {
                f.keep(0, 0);
                Due.runs(f, 1, m, 0, 0, 0, 3);
                // what a call does that is the 1501st STEP is not done
                Due.due("field(0)", f.field(0), 1000);
                dueSpent(f);
            }
        }
    }

    private static void sixteenOpen() {
        Doc.says("16 calls at most are open:");
        TemplateForge f = Due.with(1, 1, LOAD, 0, WHEN, 7, LOAD, 0, PUSH, -1, ADD, 0, CALL, 0, RET, 0, PUSH, 5, RET, 0);
        for (int k = 0; k < 4; k++) {
            Due.answers(f, 0, 15, 0, 0, 5);
            Due.due("count(3)", f.count(3), 16);
            Due.due("trap(0)", f.trap(0), 0);
        }
        // one that returned is not open any more
        f = Due.with(0, 0, PUSH, 1, RET, 0);
        Due.method(f, 1, 1, LOAD, 0, WHEN, 9, CALL, 0, POP, 0, LOAD, 0, PUSH, -1, ADD, 0, STORE, 0, JUMP, 0, PUSH, 7,
                RET, 0);
        for (int k = 0; k < 5; k++) {
            Due.answers(f, 1, 40, 0, 0, 7);
            Due.due("count(3)", f.count(3), 41);
        }
    }

    private static void deep() {
        Doc.says("one more: TRAP 6 DEEP (at its CALL).");
        TemplateForge f = Due.with(1, 1, LOAD, 0, WHEN, 7, LOAD, 0, PUSH, -1, ADD, 0, CALL, 0, RET, 0, PUSH, 5, RET, 0);
        // METHOD 1 calls METHOD 0: so the 16th is METHOD 0's 15th
        Due.method(f, 1, 1, PUSH, 0, POP, 0, LOAD, 0, CALL, 0, RET, 0);
        for (int k = 0; k < 4; k++) {
            Due.runs(f, 1, 0, 16, 0, 0, 1);
            Due.trap(f, 6, 0, 5, 16);
            Due.due("count(3)", f.count(3), 16);
            Due.due("count(2)", f.count(2), 16);
            Due.answers(f, 1, 14, 0, 0, 5);
            Due.runs(f, 1, 1, 15, 0, 0, 1);
            Due.trap(f, 6, 0, 5, 16);
        }
        // at the CALL of who calls, not of who is called; that one does not count the call
        f = new TemplateForge();
        f.method(1, 1);
        Due.method(f, 0, 0, PUSH, 1, RET, 0);
        Due.write(f, 0, LOAD, 0, WHEN, 7, LOAD, 0, PUSH, -1, ADD, 0, CALL, 0, RET, 0, PUSH, 0, POP, 0, CALL, 1, RET, 0);
        Due.look(f, 0, 2, 0);
        for (int k = 0; k < 3; k++) {
            Due.runs(f, 1, 0, 15, 0, 0, 1);
            Due.trap(f, 6, 0, 9, 16);
        }
        Due.due("of(1, 1)", f.of(1, 1), 0);
        Due.answers(f, 0, 14, 0, 0, 1);
        Due.due("of(1, 1)", f.of(1, 1), 1);
    }

    private static void trapEnds() {
        Doc.says("A TRAP ends the run, too;");
        TemplateForge f = Due.with(1, 1, PUSH, 6, LOAD, 0, DIV, 0, PUSH, 1, KEEP, 0, RET, 0);
        Due.method(f, 1, 1, LOAD, 0, CALL, 0, PUSH, 2, KEEP, 1, RET, 0);
        Due.method(f, 1, 1, LOAD, 0, CALL, 1, PUSH, 3, KEEP, 2, RET, 0);
        for (int k = 0; k < 6; k++) {
            for (int x = 0; x < 3; x++) {
                f.keep(x, 0);
            }
            Due.runs(f, 1, 2, 0, 0, 0, 1);
            Due.trap(f, 1, 0, 2, 3);
            for (int x = 0; x < 3; x++) {
                Due.due("field(" + x + ")", f.field(x), 0);
            }
            Due.answers(f, 2, 2, 0, 0, 3);
            for (int x = 0; x < 3; x++) {
                Due.due("field(" + x + ")", f.field(x), x + 1);
            }
        }
    }

    private static void whatStays() {
        Doc.says("what FIELDS, ROWS have stays.");
        // KEEP, NEW, SET, then a TRAP, or JUMPS for ever
        TemplateForge f = Due.with(1, 1, LOAD, 0, KEEP, 2, PUSH, 3, NEW, 0, PUSH, 1, LOAD, 0, SET, 0, PUSH, 1, PUSH, 0,
                DIV, 0, RET, 0);
        Due.method(f, 1, 1, LOAD, 0, KEEP, 2, PUSH, 4, NEW, 0, PUSH, 1, LOAD, 0, SET, 0, JUMP, 7);
        for (int k = 1; k <= 5; k++) {
            for (int m = 0; m < 2; m++) {
                Due.runs(f, 1, m, 10 * k + m, 0, 0, m == 0 ? 1 : 3);
                Due.due("field(2)", f.field(2), 10 * k + m);
                Due.due("size(0)", f.size(0), 3 + m);
                Due.due("item(0, 1)", f.item(0, 1), 10 * k + m);
            }
        }
        // what the TRAP's own INSTRUCTION would have changed stays as well
        f = Due.with(1, 1, LOAD, 0, NEW, 1, PUSH, 0, PUSH, 5, SET, 1, LOAD, 0, PUSH, 6, SET, 1, PUSH, 0, RET, 0);
        for (int n : new int[] {-1, 21, 2, 2, -1, 21}) {
            Due.runs(f, 1, 0, 1, 0, 0, 1);
            Due.due("trap(0)", f.trap(0), 3);
            Due.runs(f, 1, 0, n, 0, 0, 1);
            Due.due("size(1)", f.size(1), n == 2 ? 2 : 1);
            Due.due("item(1, 0)", f.item(1, 0), 5);
        }
    }
}
