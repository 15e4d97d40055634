import java.lang.management.ManagementFactory;

/** All calls of one run share one room: the dearest calls must use their rows again. */
public final class RoomTest {
    public static void main(String[] args) {
        FeatureDesugarer x = dear();
        x.lower();
        x.run(11, 0, 0, 0, false);
        x.run(11, 0, 0, 0, true);
        long before = allocated();
        for (int k = 0; k < 128; k++) {
            x.check();
            x.lower();
            x.run(11, 0, 0, 0, false);
            x.run(11, 0, 0, 0, true);
        }
        long bytes = allocated() - before;
        Due.answer("bytes that 512 dear calls make, above 100,000", Math.max(bytes, 100000), 100000);
        Due.answer("the run is dear", x.told(1), 400);
        Due.end();
    }

    /** The longest code, with a function that makes a text of 200 characters in nearly every step. */
    private static FeatureDesugarer dear() {
        FeatureDesugarer x = new FeatureDesugarer();
        Due.recipe(x, "____________");
        Due.recipe(x, "aaaaaaaaaa");
        Due.recipe(x, "__________");
        Due.recipe(x, "__");
        Due.recipe(x, "_");
        for (int f = 0; f < 11; f++) {
            x.function(3);
            Due.write(x, f, Due.NUMBER, 0, 0, Due.RETURN, 0, 0);
            for (int k = 2; k < 40; k++) {
                x.code(f, Due.JOIN, 0, 0);
            }
        }
        int f = Due.function(x, 0, Due.JOIN, 1, 0);
        for (int k = 0; k < 9; k++) {
            x.code(f, Due.TWICE, 0, 0);
        }
        Due.write(x, f, Due.JOIN, 2, 0, Due.TWICE, 0, 0, Due.JOIN, 3, 0);
        while (x.size(f, 0) < 39) {
            x.code(f, Due.JOIN, 4, 0);
        }
        x.code(f, Due.GO, 13, 0);
        return x;
    }

    private static long allocated() {
        com.sun.management.ThreadMXBean threads =
                (com.sun.management.ThreadMXBean) ManagementFactory.getThreadMXBean();
        return threads.getThreadAllocatedBytes(Thread.currentThread().getId());
    }
}
