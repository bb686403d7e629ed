import com.sun.management.ThreadMXBean;
import java.lang.management.ManagementFactory;

/**
 * All calls of a run live in one room of 7.3 million fields and elements, from which nothing is ever taken away:
 * what 512 of the dearest calls make has to stay far below, and so has a new object.
 */
public final class RoomTest {
    private static final long MOST_OF_AN_OBJECT = 40_000;
    private static final long MOST_OF_A_RUN = 1_000_000;

    private static final ThreadMXBean BEAN = (ThreadMXBean) ManagementFactory.getThreadMXBean();

    private static long made() {
        return BEAN.getThreadAllocatedBytes(Thread.currentThread().getId());
    }

    public static void main(String[] args) {
        // The first object also makes what the machine needs for itself.
        run(new TrueFloats());
        long start = made();
        TrueFloats object = new TrueFloats();
        long ofObject = made() - start;
        run(object);
        long ofRun = made() - start;
        System.out.println("room: " + ofObject + " bytes for an object, " + ofRun + " for it and 512 dear calls");
        if (ofObject > MOST_OF_AN_OBJECT || ofRun > MOST_OF_A_RUN) {
            System.out.println("that is too much");
            System.exit(1);
        }
    }

    /** 512 calls, most of them with all the bits and at the ends of the range. */
    private static void run(TrueFloats x) {
        x.range(-16384, 16384, true);
        for (int r = 0; r < 12; r++) {
            x.precision(r, 4096);
            x.number(r, 2 * r + 3, 0, 0);
            x.root(r, r, 2 + r % 3, 0);
        }
        x.number(12, 1, 16300, 0);
        x.number(13, 1, -16300, 0);
        x.reckon(2, 10, 10, 12, 1);
        x.reckon(2, 11, 11, 13, 1);
        int calls = 41;
        for (; calls + 24 <= 512; calls += 24) {
            x.reckon(0, 0, 10, 11, 0);
            x.reckon(3, 1, 2, 3, 0);
            x.reckon(4, 1, 10, 11, 0);
            x.reckon(6, 1, 10, 11, 0);
            x.fused(1, 10, 10, 11, 2);
            x.root(1, 3, 32, 0);
            x.number(4, 1, 0, 0);
            x.neighbour(4, false);
            x.power(1, 4, 32, 0);
            x.power(1, 4, -32, 0);
            x.power(1, 3, 31, 0);
            x.power(1, 3, -31, 0);
            x.root(1, 4, 31, 0);
            x.sum(1, 0, 16, 0);
            x.dot(1, 2, 2, 11, 0);
            x.write(11, 35, 2000, 0);
            x.write(10, 10, 0, 0);
            x.write(3, 2, 0, 0);
            x.whole(1, 3, 0, 0);
            x.feed(0x79797979, 0x79797979, 0x79797979, 0x79797979, 0x79402D39);
            x.read(1, 35, 0);
            x.toDouble(3, 0);
            x.compare(2, 3);
            x.flags(true);
        }
    }
}
