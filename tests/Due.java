/** What every test needs: answers that are due, told when they differ, and the exit code. */
final class Due {
    private static int wrong = 0;
    private static int asked = 0;

    private Due() {
    }

    static void due(String call, long got, long want) {
        asked++;
        if (got != want) {
            wrong++;
            if (wrong <= 50) {
                System.out.println(call + " answered " + got + ", due is " + want);
            }
        }
    }

    /** Writes INSTRUCTIONS, given as op, x, op, x, ... */
    static void write(TemplateForge f, int method, int... opsAndXs) {
        for (int k = 0; k + 1 < opsAndXs.length; k += 2) {
            int at = f.of(method, 6);
            due("write(" + method + ", " + opsAndXs[k] + ", " + opsAndXs[k + 1] + ")",
                    f.write(method, opsAndXs[k], opsAndXs[k + 1]), at);
        }
    }

    /** A METHOD that is looked over rightly, or it is told. */
    static int method(TemplateForge f, int args, int locals, int... opsAndXs) {
        int m = f.method(args, locals);
        due("method(" + args + ", " + locals + ")", m, f.count(0) - 1);
        write(f, m, opsAndXs);
        int most = f.look(m);
        if (most < 0) {
            due("look(" + m + ") with fault " + f.fault(), most, 0);
        }
        return m;
    }

    static void runs(TemplateForge f, int times, int method, int a, int b, int c, int want) {
        for (int k = 0; k < times; k++) {
            due("run(" + method + ", " + a + ", " + b + ", " + c + ")", f.run(method, a, b, c), want);
        }
    }

    /** All PARTS of a METHOD's latest CODE, each given as op, d, a, b, INSTRUCTION. */
    static void parts(TemplateForge f, int method, int... cells) {
        due("of(" + method + ", 5)", f.of(method, 5), cells.length / 5);
        for (int k = 0; k < cells.length; k++) {
            due("part(" + method + ", " + k / 5 + ", " + k % 5 + ")", f.part(method, k / 5, k % 5), cells[k]);
        }
    }

    static void end() {
        System.out.println(asked + " answers asked, " + (wrong == 0 ? "all are as due" : wrong + " are not as due"));
        if (wrong != 0) {
            System.exit(1);
        }
    }
}
