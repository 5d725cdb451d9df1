import com.sun.management.ThreadMXBean;
import java.lang.management.ManagementFactory;

/** All rows are made in the constructor: the calls behind it make no objects. */
public final class RoomTest {
    private static final ThreadMXBean THREADS = (ThreadMXBean) ManagementFactory.getThreadMXBean();

    public static void main(String[] args) {
        // The first object pays for the loading of classes.
        bytesOfCalls();
        bytesOfCalls();
        Check.due("bytes that 512 calls take are few", bytesOfCalls() < 4096 ? 1 : 0, 1);
        Check.end("RoomTest");
    }

    private static long bytesOfCalls() {
        LazyMotion m = new LazyMotion();
        long before = THREADS.getCurrentThreadAllocatedBytes();
        build(m);
        for (int i = 0; i < 60; i++) {
            m.plan();
            m.run(true, i, 2, 3);
            m.run(false, i, 2, 3);
            m.set(i % 16, i % 6);
            m.put(LazyMotion.NONE, 0);
            m.variable(i % 6);
            m.computed(i);
        }
        return THREADS.getCurrentThreadAllocatedBytes() - before;
    }

    private static void build(LazyMotion m) {
        for (int b = 0; b < 16; b++) {
            m.block();
            m.end(b, 2, b % 6, (b + 1) % 16, (b + 5) % 16);
            for (int i = 0; i < 4; i++) {
                m.statement(2, (b + i) % 6, b % 4, i, 4);
            }
        }
    }
}
