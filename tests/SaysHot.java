/** Terms, 3: HOT METHODS and what is ASSUMED, a test for each of the document's words. */
final class SaysHot implements Ops {
    private SaysHot() {
    }

    static void all() {
        Doc.section("======== 3 HOT METHODS.", "ASSUMED:");
        countsCalls();
        remembers();
        asItBegins();
        threeAlready();
        notCounted();
        runsCode();
        Doc.section("ASSUMED: each ARG", "THE CODE has PARTS");
        loadedArgs();
        noneStores();
        deadOnes();
        notVaryingArgs();
        sameInAllCalls();
        readFields();
        noneKeeps();
        notVaryingFields();
        fieldsLikewise();
    }

    private static void countsCalls() {
        Doc.says("HOT METHODS. A METHOD without CODE that is called counts that call,");
        TemplateForge f = Due.with(0, 0, PUSH, 1, RET, 0);
        Due.method(f, 0, 0, CALL, 0, CALL, 0, ADD, 0, RET, 0);
        Due.due("of(0, 1) at first", f.of(0, 1), 0);
        Due.answers(f, 1, 0, 0, 0, 2);
        Due.due("of(0, 1)", f.of(0, 1), 2);
        Due.due("of(1, 1)", f.of(1, 1), 1);
        Due.answers(f, 0, 0, 0, 0, 1);
        Due.due("of(0, 1)", f.of(0, 1), 3);
        // a call that a TRAP ends is counted; a run that is refused is no call
        f = Due.with(0, 0, PUSH, 1, PUSH, 0, DIV, 0, RET, 0);
        for (int k = 1; k <= 3; k++) {
            Due.runs(f, 1, 0, 0, 0, 0, 1);
            f.run(1, 0, 0, 0);
            Due.due("of(0, 1)", f.of(0, 1), k);
        }
    }

    private static void remembers() {
        Doc.says("and remembers the values of its ARGS, and of all FIELDS, as it begins.");
        TemplateForge f = new TemplateForge();
        f.method(3, 3);
        Due.write(f, 0, LOAD, 0, POP, 0, LOAD, 1, POP, 0, LOAD, 2, POP, 0);
        for (int k = 0; k < 8; k++) {
            Due.write(f, 0, FIELD, k, POP, 0);
            f.keep(k, k == 7 ? LEAST : 100 + k);
        }
        Due.write(f, 0, PUSH, 1, RET, 0);
        Due.look(f, 0, 1, 0);
        Due.runs(f, 4, 0, LEAST, -1, MOST, 0);
        Due.parts(f, 0, GARG, 0, LEAST, 0, 0, GARG, 1, -1, 0, 0, GARG, 2, MOST, 0, 0, GFLD, 0, 100, 0, 0, GFLD, 1, 101,
                0, 0, GFLD, 2, 102, 0, 0, GFLD, 3, 103, 0, 0, GFLD, 4, 104, 0, 0, GFLD, 5, 105, 0, 0, GFLD, 6, 106, 0,
                0, GFLD, 7, LEAST, 0, 0, LI, 7, 1, 0, 23, P_RET, 0, 7, 0, 23);
    }

    private static void asItBegins() {
        Doc.says("and of all FIELDS, as it begins.");
        // METHOD 0 adds 1 to FIELD 1: METHOD 1 begins with 5 each time, and reads 6 itself
        TemplateForge f = Due.with(0, 0, FIELD, 1, PUSH, 1, ADD, 0, KEEP, 1, PUSH, 0, RET, 0);
        Due.method(f, 0, 0, CALL, 0, FIELD, 1, ADD, 0, RET, 0);
        for (int k = 0; k < 3; k++) {
            f.keep(1, 5);
            Due.answers(f, 1, 0, 0, 0, 6);
        }
        f.keep(1, 5);
        Due.answers(f, 1, 0, 0, 0, 6);
        Due.due("part(1, 0, 0)", f.part(1, 0, 0), GFLD);
        Due.due("part(1, 0, 2)", f.part(1, 0, 2), 5);
        // and what a FIELD is when the call ends, or between calls, is not remembered
        f = Due.with(0, 0, FIELD, 2, RET, 0);
        for (int k = 0; k < 3; k++) {
            f.keep(2, 8);
            Due.answers(f, 0, 0, 0, 0, 8);
            f.keep(2, k);
        }
        f.keep(2, 8);
        Due.answers(f, 0, 0, 0, 0, 8);
        Due.due("part(0, 0, 2)", f.part(0, 0, 2), 8);
    }

    private static void threeAlready() {
        Doc.says("If it has counted 3 such calls already, it is put into CODE ahead of that call");
        TemplateForge f = Due.with(0, 0, PUSH, 4, RET, 0);
        for (int k = 1; k <= 6; k++) {
            Due.answers(f, 0, 0, 0, 0, 4);
            Due.due("of(0, 0) after " + k, f.of(0, 0), k <= 3 ? 0 : 1);
            Due.due("of(0, 2) after " + k, f.of(0, 2), k <= 3 ? 0 : 1);
            Due.due("count(4) of " + k, f.count(4), k <= 3 ? 0 : 1);
        }
        // in one run: the calls that are open go on by INSTRUCTIONS
        f = Due.with(1, 1, LOAD, 0, WHEN, 7, LOAD, 0, PUSH, -1, ADD, 0, CALL, 0, RET, 0, PUSH, 4, RET, 0);
        Due.answers(f, 0, 2, 0, 0, 4);
        Due.due("of(0, 0) after three", f.of(0, 0), 0);
        Due.answers(f, 0, 0, 0, 0, 4);
        Due.due("of(0, 0) after four", f.of(0, 0), 1);
        f = Due.with(1, 1, LOAD, 0, WHEN, 7, LOAD, 0, PUSH, -1, ADD, 0, CALL, 0, RET, 0, PUSH, 4, RET, 0);
        Due.answers(f, 0, 3, 0, 0, 4);
        Due.due("count(4) of four", f.count(4), 1);
        Due.due("of(0, 2) of four", f.of(0, 2), 1);
    }

    private static void notCounted() {
        Doc.says("(which is not counted), from what it remembers.");
        TemplateForge f = Due.with(1, 1, LOAD, 0, RET, 0);
        Due.runs(f, 3, 0, 5, 0, 0, 0);
        Due.answers(f, 0, 6, 0, 0, 6);
        // its own ARG is not remembered: 5 is assumed, and is not so
        Due.parts(f, 0, GARG, 0, 5, 0, 0, LI, 7, 5, 0, 1, P_RET, 0, 7, 0, 1);
        Due.due("count(5)", f.count(5), 1);
        f = Due.with(1, 1, LOAD, 0, RET, 0);
        Due.runs(f, 6, 0, 5, 0, 0, 0);
        Due.due("of(0, 1)", f.of(0, 1), 3);
    }

    private static void runsCode() {
        Doc.says("A call of a METHOD that has CODE runs that CODE.");
        TemplateForge f = Due.with(0, 0, PUSH, 4, RET, 0);
        Due.method(f, 0, 0, CALL, 0, CALL, 0, ADD, 0, CALL, 0, ADD, 0, RET, 0);
        Due.answers(f, 1, 0, 0, 0, 12);
        Due.due("count(4)", f.count(4), 0);
        for (int k = 1; k <= 3; k++) {
            Due.answers(f, 1, 0, 0, 0, 12);
            Due.due("count(4)", f.count(4), k < 3 ? 3 : 4);
            Due.due("of(0, 4)", f.of(0, 4), 3 * k);
        }
        Due.due("of(1, 4)", f.of(1, 4), 1);
        Due.due("of(0, 2)", f.of(0, 2), 1);
    }

    /** The GUARDS of METHOD 0's CODE, each as op, d, a. */
    private static void guards(TemplateForge f, int... opDA) {
        int guards = 0;
        while (f.part(0, guards, 0) >= GARG) {
            guards++;
        }
        Due.due("GUARDS", guards, opDA.length / 3);
        for (int k = 0; k < opDA.length; k++) {
            Due.due("part(0, " + k / 3 + ", " + k % 3 + ")", f.part(0, k / 3, k % 3), opDA[k]);
        }
    }

    private static void loadedArgs() {
        Doc.says("ASSUMED: each ARG that some INSTRUCTION LOADS");
        for (int x = 0; x < 3; x++) {
            TemplateForge f = Due.with(3, 4, LOAD, x, LOAD, 3, ADD, 0, RET, 0);
            Due.runs(f, 4, 0, 50, 51, 52, 0);
            guards(f, GARG, x, 50 + x);
        }
        TemplateForge f = Due.with(3, 4, LOAD, 2, LOAD, 0, LOAD, 3, ADD, 0, ADD, 0, RET, 0);
        Due.runs(f, 4, 0, 50, 51, 52, 0);
        guards(f, GARG, 0, 50, GARG, 2, 52);
        // LOCALS that are no ARGS are not, though they are 0 in all calls
        f = Due.with(1, 3, LOAD, 1, LOAD, 2, ADD, 0, RET, 0);
        Due.runs(f, 4, 0, 50, 51, 52, 0);
        guards(f);
    }

    private static void noneStores() {
        Doc.says("and none STORES");
        TemplateForge f = Due.with(3, 3, LOAD, 0, LOAD, 1, ADD, 0, LOAD, 2, ADD, 0, PUSH, 51, STORE, 1, RET, 0);
        Due.runs(f, 4, 0, 50, 51, 52, 0);
        guards(f, GARG, 0, 50, GARG, 2, 52);
        // not even where it is never gone through: it is not DEAD
        f = Due.with(2, 2, LOAD, 0, WHEN, 5, LOAD, 0, LOAD, 1, RET, 0, PUSH, 1, STORE, 0, PUSH, 2, RET, 0);
        Due.runs(f, 4, 0, 50, 51, 0, 0);
        guards(f, GARG, 1, 51);
    }

    private static void deadOnes() {
        Doc.says("(DEAD ones do not count),");
        TemplateForge f = Due.with(2, 2, LOAD, 1, RET, 0, LOAD, 0, STORE, 1, JUMP, 2);
        Due.runs(f, 4, 0, 50, 51, 0, 0);
        guards(f, GARG, 1, 51);
    }

    private static void notVaryingArgs() {
        Doc.says("that is not marked VARIES,");
        TemplateForge f = Due.with(2, 2, LOAD, 0, LOAD, 1, ADD, 0, RET, 0);
        Due.runs(f, 4, 0, 50, 51, 0, 0);
        guards(f, GARG, 0, 50, GARG, 1, 51);
        Due.runs(f, 1, 0, 60, 51, 0, 0);
        Due.runs(f, 4, 0, 50, 51, 0, 0);
        guards(f, GARG, 1, 51);
        Due.runs(f, 1, 0, 60, 61, 0, 0);
        Due.runs(f, 4, 0, 50, 51, 0, 0);
        guards(f);
    }

    private static void sameInAllCalls() {
        Doc.says("and had the same value in all calls that it counted;");
        for (int other = 0; other < 3; other++) {
            TemplateForge f = Due.with(2, 2, LOAD, 0, LOAD, 1, ADD, 0, RET, 0);
            for (int k = 0; k < 4; k++) {
                Due.answers(f, 0, k == other ? 8 : 7, 9, 0, k == other ? 17 : 16);
            }
            guards(f, GARG, 1, 9);
        }
        // those alone that it counts since it began anew
        TemplateForge f = Due.with(2, 2, LOAD, 0, LOAD, 1, ADD, 0, RET, 0);
        f.run(0, 1, 3, 0);
        f.run(0, 2, 3, 0);
        Due.runs(f, 2, 0, 1, 3, 0, 0);
        guards(f, GARG, 1, 3);
        Due.runs(f, 1, 0, 1, 4, 0, 0);
        Due.runs(f, 4, 0, 1, 4, 0, 0);
        guards(f, GARG, 0, 1);
    }

    private static void readFields() {
        Doc.says("each FIELD that some FIELD reads");
        for (int x = 0; x < 8; x++) {
            TemplateForge f = Due.with(0, 0, FIELD, x, RET, 0);
            f.keep(x, 60 + x);
            Due.runs(f, 4, 0, 0, 0, 0, 0);
            guards(f, GFLD, x, 60 + x);
        }
        TemplateForge f = Due.with(0, 0, PUSH, 1, RET, 0, FIELD, 2, RET, 0);
        Due.runs(f, 4, 0, 0, 0, 0, 0);
        guards(f);
    }

    private static void noneKeeps() {
        Doc.says("and no KEEP writes in it,");
        TemplateForge f = Due.with(0, 0, FIELD, 2, FIELD, 3, KEEP, 2, RET, 0);
        Due.runs(f, 4, 0, 0, 0, 0, 0);
        guards(f, GFLD, 3, 0);
        // a DEAD one writes nothing; one in another METHOD does not count
        f = Due.with(0, 0, FIELD, 2, RET, 0, PUSH, 0, KEEP, 2, JUMP, 2);
        Due.method(f, 0, 0, PUSH, 0, KEEP, 2, PUSH, 0, RET, 0);
        Due.runs(f, 4, 0, 0, 0, 0, 0);
        guards(f, GFLD, 2, 0);
    }

    private static void notVaryingFields() {
        Doc.says("not marked VARIES,");
        TemplateForge f = Due.with(0, 0, FIELD, 2, FIELD, 3, ADD, 0, RET, 0);
        Due.runs(f, 4, 0, 0, 0, 0, 0);
        guards(f, GFLD, 2, 0, GFLD, 3, 0);
        f.keep(2, 1);
        Due.runs(f, 5, 0, 0, 0, 0, 0);
        guards(f, GFLD, 3, 0);
        f.keep(3, 1);
        Due.runs(f, 5, 0, 0, 0, 0, 0);
        guards(f);
    }

    private static void fieldsLikewise() {
        Doc.says("not marked VARIES, likewise.");
        for (int other = 0; other < 3; other++) {
            TemplateForge f = Due.with(0, 0, FIELD, 7, FIELD, 6, ADD, 0, RET, 0);
            for (int k = 0; k < 4; k++) {
                f.keep(7, k == other ? 8 : 7);
                Due.answers(f, 0, 0, 0, 0, k == other ? 8 : 7);
            }
            guards(f, GFLD, 6, 0);
        }
    }
}
