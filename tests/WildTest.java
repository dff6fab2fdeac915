import java.util.Random;

/** All calls in any order with any numbers, against the Model: nothing throws, refusals change nothing. */
public final class WildTest {
    private static final int[] EDGES = {-1, -2, 8, 9, 20, 21, 59, 60, 61, Integer.MIN_VALUE, Integer.MAX_VALUE, -100, 18};

    public static void main(String[] args) {
        for (int seed = 0; seed < 3000; seed++) {
            one(new Random(seed), seed);
        }
        Due.end();
    }

    private static int any(Random r, int usual) {
        return r.nextInt(12) == 0 ? EDGES[r.nextInt(EDGES.length)] : r.nextInt(usual);
    }

    private static void one(Random r, int seed) {
        TemplateForge f = new TemplateForge();
        Model m = new Model();
        for (int call = 0; call < 500; call++) {
            int a = any(r, 3), b = any(r, 8), c = any(r, 6);
            String at = "seed " + seed + ", call " + call + ": ";
            String tail = "(" + a + ", " + b + ", " + c + ")";
            switch (r.nextInt(24)) {
                case 0 -> Due.due(at + "method" + tail, f.method(a, c), m.method(a, c));
                case 1 -> Due.due(at + "fault", f.fault(), m.fault());
                case 2 -> Due.due(at + "keep" + tail, f.keep(b, a), m.keep(b, a));
                case 3 -> Due.due(at + "field" + tail, f.field(b), m.field(b));
                case 4 -> Due.due(at + "lose" + tail, f.lose(c), m.lose(c));
                case 5 -> Due.due(at + "size" + tail, f.size(c), m.size(c));
                case 6 -> Due.due(at + "item" + tail, f.item(c, b), m.item(c, b));
                case 7 -> Due.due(at + "answer", f.answer(), m.answer());
                case 8 -> Due.due(at + "trap" + tail, f.trap(c), m.trap(c));
                case 9 -> Due.due(at + "of" + tail, f.of(a, b), m.of(a, b));
                case 10 -> Due.due(at + "part" + tail, f.part(a, b, c), m.part(a, b, c));
                case 11 -> Due.due(at + "varies" + tail, f.varies(a, b + c), m.varies(a, b + c));
                case 12 -> Due.due(at + "depth" + tail, f.depth(a, b), m.depth(a, b));
                case 13 -> Due.due(at + "count" + tail, f.count(b), m.count(b));
                case 14 -> Due.due(at + "digest", f.digest(), m.digest());
                case 15, 16 -> Due.due(at + "look" + tail, f.look(a), m.look(a));
                case 17, 18 -> Due.due(at + "run" + tail, f.run(a, b, c, a), m.run(a, b, c, a));
                case 19 -> {
                    // what makes most METHODS right: a PUSH and a RET
                    Due.due(at + "write PUSH", f.write(a, 0, b), m.write(a, 0, b));
                    Due.due(at + "write RET", f.write(a, 12, c), m.write(a, 12, c));
                }
                default -> {
                    int op = any(r, 20);
                    Due.due(at + "write " + op + tail, f.write(a, op, b), m.write(a, op, b));
                }
            }
        }
        Due.due("seed " + seed + ": digest", f.digest(), m.digest());
    }
}
