import com.sun.management.ThreadMXBean;
import java.lang.management.ManagementFactory;

/** All calls of one run live in one room: what the dearest ones make together stays far below it. */
public final class RoomTest implements Ops {
    /** The room has 7.3 million fields and elements; so many bytes are a twentieth of it, were each an int. */
    private static final long ROOM = 7_300_000L * 4 / 20;

    public static void main(String[] args) {
        Due.about("all calls of one run live in one room");
        oneThatIsPutIntoCodeAllTheTime(new TemplateForge());
        ThreadMXBean threads = (ThreadMXBean) ManagementFactory.getThreadMXBean();
        long me = Thread.currentThread().getId();
        long before = threads.getThreadAllocatedBytes(me);
        TemplateForge f = new TemplateForge();
        long made = threads.getThreadAllocatedBytes(me) - before;
        oneThatIsPutIntoCodeAllTheTime(f);
        long all = threads.getThreadAllocatedBytes(me) - before;
        System.out.println("bytes of a new object: " + made + ", of one that was put into CODE all the time: " + all);
        Due.due("bytes, at most " + ROOM, Math.max(all, ROOM), ROOM);
        runsMakeNothing(f, threads, me);
        Due.end();
    }

    /** Seven METHODS assume eleven things and lose one after the other; METHOD 7 calls each of them five times. */
    private static void oneThatIsPutIntoCodeAllTheTime(TemplateForge f) {
        for (int m = 0; m < 7; m++) {
            f.method(3, 3);
            for (int x = 0; x < 8; x++) {
                f.write(m, FIELD, x);
                f.write(m, POP, 0);
            }
            for (int x = 0; x < 3; x++) {
                f.write(m, LOAD, x);
                f.write(m, POP, 0);
            }
            f.write(m, PUSH, m);
            f.write(m, RET, 0);
            f.look(m);
        }
        f.method(3, 4);
        for (int m = 0; m < 7; m++) {
            for (int x = 0; x < 3; x++) {
                f.write(7, LOAD, x);
            }
            f.write(7, CALL, m);
            f.write(7, POP, 0);
        }
        int[] around = {LOAD, 3, PUSH, 1, ADD, 0, STORE, 3, LOAD, 3, PUSH, 5, SAME, 0, WHEN, 0, PUSH, 1, RET, 0};
        Due.write(f, 7, around);
        Due.look(f, 7, 3, 0);
        for (int k = 0; k < 12; k++) {
            // one more thing is not as it was assumed, but for the first time
            if (k >= 1 && k <= 8) {
                f.keep(k - 1, 1);
            }
            Due.answers(f, 7, k == 9 ? 1 : 0, k == 10 ? 1 : 0, k == 11 ? 1 : 0, 1);
        }
        for (int m = 0; m < 7; m++) {
            Due.due("of(" + m + ", 2)", f.of(m, 2), 12);
            Due.due("of(" + m + ", 3)", f.of(m, 3), 11);
        }
    }

    private static void runsMakeNothing(TemplateForge f, ThreadMXBean threads, long me) {
        int[] ways = new int[2];
        // METHOD 7 finds out that its own ARGS are others now
        for (int k = 0; k < 20; k++) {
            f.run(7, 1, 1, 1);
        }
        long before = threads.getThreadAllocatedBytes(me);
        for (int k = 0; k < 40; k++) {
            ways[f.run(7, 1, 1, 1) == 0 ? 0 : 1]++;
            ways[f.digest() == 0 ? 0 : 1]++;
            ways[f.part(3, 1, 1) == 0 ? 0 : 1]++;
        }
        long made = threads.getThreadAllocatedBytes(me) - before;
        Due.due("tens of thousands of bytes that 40 runs make", made / 10000, 0);
    }
}
