import java.lang.management.ManagementFactory;

/** All calls of a run share one room: an object is small, and its calls make nothing. */
public final class RoomTest {
    private static final int MOST_OBJECT_BYTES = 100_000;
    private static final int CALLS = 512;

    public static void main(String[] args) {
        com.sun.management.ThreadMXBean threads = (com.sun.management.ThreadMXBean) ManagementFactory.getThreadMXBean();
        run(new DigitMill());
        long before = threads.getCurrentThreadAllocatedBytes();
        DigitMill mill = new DigitMill();
        long made = threads.getCurrentThreadAllocatedBytes() - before;
        Check.due("a new object takes " + made + " bytes: few", true, made <= MOST_OBJECT_BYTES);
        before = threads.getCurrentThreadAllocatedBytes();
        run(mill);
        long used = threads.getCurrentThreadAllocatedBytes() - before;
        Check.due("the calls took " + used + " bytes: next to none", true, used <= CALLS);
        Check.end("RoomTest");
    }

    private static void run(DigitMill mill) {
        for (int i = 0; i < CALLS / 16; i++) {
            mill.mill(i % 5, 4000 + 30 * i, 16);
            mill.keep();
            mill.root(i + 2, 3000, 36);
            mill.swap();
            mill.divide();
            mill.convert(7);
            mill.over(1, 7, 3000, 36);
            mill.push(1);
            mill.add();
            mill.compare();
            mill.rooted();
            mill.times();
            mill.about(3);
            mill.find(12, 7, 0);
            mill.count(1, 0, 100);
            mill.digit(5);
        }
    }
}
