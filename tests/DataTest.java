/** Promises 6 to 10: keep, field, lose, size, item. */
public final class DataTest {
    private static final int PUSH = 0, LOAD = 1, RET = 12, NEW = 15, GET = 16, SET = 17;
    private static final int LEAST = Integer.MIN_VALUE;

    public static void main(String[] args) {
        fields();
        rows();
        rowsThatAreMadeAnew();
        Due.end();
    }

    private static void fields() {
        TemplateForge f = new TemplateForge();
        for (int k = 0; k < 8; k++) {
            Due.due("keep(" + k + ")", f.keep(k, 10 + k), 0);
        }
        for (int k = 0; k < 8; k++) {
            Due.due("field(" + k + ")", f.field(k), 10 + k);
            Due.due("keep again", f.keep(k, -k), 10 + k);
            Due.due("field again", f.field(k), -k);
        }
        Due.due("keep the least", f.keep(0, LEAST), 0);
        Due.due("keep the most", f.keep(0, Integer.MAX_VALUE), LEAST);
        for (int bad : new int[] {-1, 8, LEAST, Integer.MAX_VALUE}) {
            Due.due("field(" + bad + ")", f.field(bad), LEAST);
            Due.due("keep(" + bad + ")", f.keep(bad, 5), LEAST);
        }
        Due.due("field(0)", f.field(0), Integer.MAX_VALUE);
        Due.due("field(7)", f.field(7), -7);
    }

    /** METHOD r makes ROW r with its ARG's many items, and sets item 0 to 50 + r. */
    private static TemplateForge withRows() {
        TemplateForge f = new TemplateForge();
        for (int r = 0; r < 4; r++) {
            Due.method(f, 1, 1, LOAD, 0, NEW, r, PUSH, 0, PUSH, 50 + r, SET, r, PUSH, 0, RET, 0);
        }
        return f;
    }

    private static void rows() {
        TemplateForge f = withRows();
        for (int r = 0; r < 4; r++) {
            Due.due("size lost", f.size(r), -1);
            Due.due("lose lost", f.lose(r), -1);
            Due.due("run", f.run(r, 17 + r, 0, 0), 0);
        }
        for (int r = 0; r < 4; r++) {
            Due.due("size(" + r + ")", f.size(r), 17 + r);
            Due.due("item(" + r + ", 0)", f.item(r, 0), 50 + r);
            Due.due("item(" + r + ", 1)", f.item(r, 1), 0);
            Due.due("item(" + r + ", -1)", f.item(r, -1), 0);
            Due.due("item(" + r + ", 20)", f.item(r, 20), 0);
            Due.due("item of the most", f.item(r, Integer.MAX_VALUE), 0);
        }
        for (int bad : new int[] {-1, 4, LEAST, Integer.MAX_VALUE}) {
            Due.due("size(" + bad + ")", f.size(bad), -2);
            Due.due("lose(" + bad + ")", f.lose(bad), -2);
            Due.due("item(" + bad + ", 0)", f.item(bad, 0), 0);
        }
        Due.due("lose(2)", f.lose(2), 19);
        Due.due("size(2)", f.size(2), -1);
        Due.due("item(2, 0)", f.item(2, 0), 0);
        Due.due("lose(2) again", f.lose(2), -1);
        Due.due("size(1)", f.size(1), 18);
        Due.due("size(3)", f.size(3), 20);
        Due.due("run with 0 items", f.run(3, 0, 0, 0), 1);
        Due.due("trap(0)", f.trap(0), 3);
        Due.due("size(3) of none", f.size(3), 0);
        Due.due("lose(3) of none", f.lose(3), 0);
        Due.due("size(3)", f.size(3), -1);
    }

    private static void rowsThatAreMadeAnew() {
        TemplateForge f = withRows();
        int set = Due.method(f, 2, 2, LOAD, 0, LOAD, 1, SET, 1, LOAD, 0, GET, 1, RET, 0);
        f.run(1, 20, 0, 0);
        for (int i = 0; i < 20; i++) {
            Due.due("set", f.run(set, i, 100 + i, 0), 0);
            Due.due("got", f.answer(), 100 + i);
        }
        for (int i = 0; i < 20; i++) {
            Due.due("item(1, " + i + ")", f.item(1, i), 100 + i);
        }
        f.run(1, 5, 0, 0);
        Due.due("size(1)", f.size(1), 5);
        Due.due("item(1, 0)", f.item(1, 0), 51);
        Due.due("item(1, 4)", f.item(1, 4), 0);
        Due.due("item(1, 5)", f.item(1, 5), 0);
        f.lose(1);
        f.run(1, 20, 0, 0);
        for (int i = 1; i < 20; i++) {
            Due.due("item(1, " + i + ") is 0 anew", f.item(1, i), 0);
        }
        Due.due("item(0, 0) of another", f.item(0, 0), 0);
    }
}
