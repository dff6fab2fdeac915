/** What every test needs: answers that are due, told when they differ, and the exit code. */
final class Due {
    private static int wrong = 0;
    private static int asked = 0;
    private static String about = "";
    private static int wrongOfThis = 0;

    private Due() {
    }

    /** What the tests that follow are of: told once, if one of them fails. */
    static void about(String words) {
        about = words;
        wrongOfThis = 0;
    }

    static void due(String call, long got, long want) {
        asked++;
        if (got != want) {
            wrong++;
            wrongOfThis++;
            if (wrongOfThis == 1) {
                System.out.println("does not hold: " + about);
            }
            if (wrongOfThis <= 10) {
                System.out.println("  " + call + " answered " + got + ", due is " + want);
            }
        }
    }

    /** Writes INSTRUCTIONS, given as op, x, op, x, ... */
    static void write(TemplateForge f, int method, int... opsAndXs) {
        for (int k = 0; k + 1 < opsAndXs.length; k += 2) {
            int at = f.of(method, 6);
            due("write(" + method + ", " + opsAndXs[k] + ", " + opsAndXs[k + 1] + ")",
                    f.write(method, opsAndXs[k], opsAndXs[k + 1]), at);
        }
    }

    /** A METHOD that is looked over rightly, or it is told. */
    static int method(TemplateForge f, int args, int locals, int... opsAndXs) {
        int m = f.method(args, locals);
        due("method(" + args + ", " + locals + ")", m, f.count(0) - 1);
        write(f, m, opsAndXs);
        int most = f.look(m);
        if (most < 0) {
            due("look(" + m + ") with fault " + f.fault(), most, 0);
        }
        return m;
    }

    /** A new object with that METHOD 0, not looked over. */
    static TemplateForge written(int args, int locals, int... opsAndXs) {
        TemplateForge f = new TemplateForge();
        due("method(" + args + ", " + locals + ")", f.method(args, locals), 0);
        write(f, 0, opsAndXs);
        return f;
    }

    /** A new object with that METHOD 0, looked over rightly. */
    static TemplateForge with(int args, int locals, int... opsAndXs) {
        TemplateForge f = new TemplateForge();
        method(f, args, locals, opsAndXs);
        return f;
    }

    static void look(TemplateForge f, int method, int want, int fault) {
        due("look(" + method + ")", f.look(method), want);
        due("fault()", f.fault(), fault);
    }

    /** A new object's METHOD without ARGS, with two LOCALS, is found with this FAULT at this INSTRUCTION. */
    static void faulty(int fault, int at, int... opsAndXs) {
        look(written(0, 2, opsAndXs), 0, -100 - at, fault);
    }

    /** The same without any FAULT; the greatest depth of its PILE. */
    static void right(int most, int... opsAndXs) {
        look(written(0, 2, opsAndXs), 0, most, 0);
    }

    static void runs(TemplateForge f, int times, int method, int a, int b, int c, int want) {
        for (int k = 0; k < times; k++) {
            due("run(" + method + ", " + a + ", " + b + ", " + c + ")", f.run(method, a, b, c), want);
        }
    }

    static void answers(TemplateForge f, int method, int a, int b, int c, int want) {
        runs(f, 1, method, a, b, c, 0);
        due("answer()", f.answer(), want);
    }

    static void trap(TemplateForge f, int number, int method, int instruction, int open) {
        due("trap(0)", f.trap(0), number);
        due("trap(1)", f.trap(1), method);
        due("trap(2)", f.trap(2), instruction);
        due("trap(3)", f.trap(3), open);
        due("answer()", f.answer(), 0);
    }

    /**
     * A METHOD 0 with these ARGS, with six LOCALS, returns that: by INSTRUCTIONS, by CODE in which the ARGS are
     * constant, and by CODE in which they are not.
     */
    static void returns(int want, int[] args, int... opsAndXs) {
        int[] all = java.util.Arrays.copyOf(args, 3);
        TemplateForge f = with(args.length, 6, opsAndXs);
        for (int k = 0; k < 5; k++) {
            answers(f, 0, all[0], all[1], all[2], want);
            due("of(0, 4)", f.of(0, 4), Math.max(k - 2, 0));
        }
        TemplateForge g = varied(all, args.length, opsAndXs);
        answers(g, 0, all[0], all[1], all[2], want);
        due("of(0, 4)", g.of(0, 4), 1);
    }

    /** The same of a METHOD that ends by a TRAP. */
    static void traps(int number, int at, int[] args, int... opsAndXs) {
        int[] all = java.util.Arrays.copyOf(args, 3);
        TemplateForge f = with(args.length, 6, opsAndXs);
        for (int k = 0; k < 5; k++) {
            runs(f, 1, 0, all[0], all[1], all[2], 1);
            trap(f, number, 0, at, 1);
            due("of(0, 4)", f.of(0, 4), Math.max(k - 2, 0));
        }
        TemplateForge g = varied(all, args.length, opsAndXs);
        runs(g, 1, 0, all[0], all[1], all[2], 1);
        trap(g, number, 0, at, 1);
        due("of(0, 4)", g.of(0, 4), 1);
    }

    /** Three calls with other ARGS went ahead, so that none of them is ASSUMED. */
    private static TemplateForge varied(int[] all, int args, int... opsAndXs) {
        TemplateForge g = with(args, 6, opsAndXs);
        for (int k = 1; k <= 3; k++) {
            g.run(0, all[0] + k, all[1] + k, all[2] + k);
        }
        return g;
    }

    /** All PARTS of a METHOD's latest CODE, each given as op, d, a, b, INSTRUCTION. */
    static void parts(TemplateForge f, int method, int... cells) {
        due("of(" + method + ", 5)", f.of(method, 5), cells.length / 5);
        for (int k = 0; k < cells.length; k++) {
            due("part(" + method + ", " + k / 5 + ", " + k % 5 + ")", f.part(method, k / 5, k % 5), cells[k]);
        }
    }

    static void end() {
        System.out.println(asked + " answers asked, " + (wrong == 0 ? "all are as due" : wrong + " are not as due"));
        if (wrong != 0) {
            System.exit(1);
        }
    }
}
