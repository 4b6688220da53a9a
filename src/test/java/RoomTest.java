import java.lang.management.ManagementFactory;

/**
 * All calls of one run live in one room (some 600,000 objects): rows are made by the constructor and used again, so
 * that a run of calls, the dearest among them, takes next to nothing. Measured in the bytes that this thread was given.
 */
public final class RoomTest {
    private static final com.sun.management.ThreadMXBean THREADS =
        (com.sun.management.ThreadMXBean) ManagementFactory.getThreadMXBean();
    // An object's rows and six CYLINDERS come to some 4,000; a row made anew by each call would be beyond it soon.
    private static final long MOST_BYTES = 10_000;

    private static long bytes() {
        return THREADS.getCurrentThreadAllocatedBytes();
    }

    /** Six CYLINDERS under LOADS, three of them shut, ORDERS and READINGS as many as there may be, 200 TICKS. */
    private static OilPush busy() {
        OilPush x = Check.plant(50, 100);
        for (int c = 0; c < 6; c++) {
            x.cylinder(0, 100, 100);
            Check.load(x, c, 10, 20, 30, 40, 50, 60, 70, 80, 90, 100);
            x.fill(c, 5000);
            x.valve(c, c % 2);
        }
        x.store(5000, 10, 7);
        for (int i = 0; i < 30; i++) {
            x.order(i % 6, i % 3, i % 6, i % 2);
        }
        x.start();
        x.tick(200);
        // Told by no LEAK, but seen in the last TICK alone: each trial goes to its end.
        for (int i = 0; i < 20; i++) {
            x.reading(200, i % 6, 1);
        }
        return x;
    }

    /** One of each call that could be tempted to make a row; those of leak and tick are the dearest. */
    private static long round(OilPush x, int i) {
        long v = x.leak(i % 2);
        v += x.sheet(i % 4, i % 3, 20);
        v += x.put(i % 4, i % 20, i);
        v += x.cell(i % 4, i % 20, i % 3);
        v += x.copy(i % 4, 0, i % 4, 10, 10);
        v += x.loads(i % 6, i % 4, i % 3, 0, 10);
        v += x.tell(i % 6) + x.look(i % 6) + x.as(i % 6, 1);
        v += x.start() + x.tick(200) + x.forget();
        v += x.reading(200, i % 6, 1);
        return v;
    }

    private static long run() {
        OilPush x = busy();
        long v = 0;
        for (int i = 0; i < 20; i++) {
            v += round(x, i);
        }
        return v;
    }

    public static void main(String[] args) {
        Check k = new Check("RoomTest");
        k.part("what a run of calls makes");
        k.isTrue(THREADS.isThreadAllocatedMemoryEnabled(), "bytes can be counted");
        // The first run loads classes, which is not the object's doing.
        long first = run();
        long was = bytes();
        long second = run();
        long taken = bytes() - was;
        k.is(first, second, "the same calls, the same answers");
        k.isTrue(taken < MOST_BYTES, "under " + MOST_BYTES + " bytes: " + taken);
        k.is(OilPush.NONE, busy().leak(0), "the trials of leak find none");
        k.end();
    }
}
