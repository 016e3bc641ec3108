import com.sun.management.ThreadMXBean;
import java.lang.management.ManagementFactory;

/** What a run's calls make: all of them live in one room, and what a call has reckoned in is used again. */
final class RoomTest {
    private static final int MOST_CALLS = 512, MOST_BYTES = 1 << 16;

    private RoomTest() { }

    static void run() {
        Check.test("room: the dearest calls make no objects", RoomTest::dearestCalls);
    }

    /** 512 calls: 12 stars, 80 looks, 30 minima and 8 rules are told, one entry is made, and the rest asks. */
    private static void dearestCalls() {
        long before = madeBytes();
        LightcurveHouse x = new LightcurveHouse();
        int calls = tell(x);
        for (; calls < MOST_CALLS; calls++) {
            ask(x, calls % 5);
        }
        long made = madeBytes() - before;
        Check.due("bytes: " + made, made < MOST_BYTES, true);
    }

    private static int tell(LightcurveHouse x) {
        for (int i = 0; i < 12; i++) {
            x.star(i * 30);
        }
        for (int i = 0; i < 80; i++) {
            x.step(i % 12, i % 8, i * 7919 % 100000, 0, i % 9 + 1, 1, 1);
        }
        for (int i = 0; i < 30; i++) {
            x.minimum(i % 12, i * 1009);
        }
        for (int i = 0; i < 8; i++) {
            x.rule(i % 5, LightcurveHouse.RISE, 0, 50, 1);
        }
        x.claim(0, 500);
        x.comparison(1, 1100);
        for (int i = 1; i < 12; i++) {
            x.merge(0, i);
        }
        return 12 + 80 + 30 + 8 + 2 + 11;
    }

    private static void ask(LightcurveHouse x, int which) {
        switch (which) {
            case 0 -> x.aliases(0, 100, 299, 1, 20);
            case 1 -> x.period(0, 100, 299, 1);
            case 2 -> x.kind(0);
            case 3 -> x.lost(0, 77);
            default -> x.nearest(0);
        }
    }

    private static long madeBytes() {
        ThreadMXBean threads = (ThreadMXBean) ManagementFactory.getThreadMXBean();
        return threads.getThreadAllocatedBytes(Thread.currentThread().getId());
    }
}
