import java.lang.management.ManagementFactory;

/** All calls of one run live in one room, so the calls make next to nothing: as many of each as a run has are counted. */
public final class RoomTest {
    private static final int CALLS = 512;
    // What is told by several calls is told so often that these are no more than a run has.
    private static final int TIMES_BY_SEVERAL = 100;
    private static final int TOLD_BY_SEVERAL = 2;
    private static final long MOST_BYTES_OF_AN_OBJECT = 20_000;
    private static final long MOST_BYTES_OF_ALL_CALLS = 100_000;

    private interface Call {
        void run(Seepwork x);
    }

    public static void main(String[] args) {
        Seepwork warm = new Seepwork();
        long before = bytes();
        warm = new Seepwork();
        Due.is("a new object is small", bytes() - before <= MOST_BYTES_OF_AN_OBJECT, true);
        Call[] calls = {
            y -> y.seed(9), y -> y.bond(4, 5), y -> y.site(4, 5), y -> y.numberOf(2, 4), y -> y.shut(3, false),
            y -> y.strike(0), y -> y.cluster(0, 900, 35), y -> y.sizes(0, 500, 2), y -> y.spans(0, 600, true),
            y -> y.edge(2, true), y -> y.edgeAnew(2, true), y -> y.ways(0, 1000), y -> y.cut(0, 1000),
            y -> y.red(0, 600), y -> y.shortest(0, 1000), y -> y.polynomial(3, 3, 6), y -> y.chance(3, 3, 5),
            y -> y.pivots(3, 3, 5), y -> y.time(0, 35), y -> y.ball(0, 60000), y -> y.rival(0, 35, 20),
            y -> y.invade(0, 35), y -> y.invaded(0, 35), y -> y.wet(3, true), y -> y.filled(1, 1),
            y -> y.leastWet(3, 4, 3), y -> y.grow(200), y -> y.lightning(3), y -> y.fibre(3, 1000),
            y -> y.load(20000, true), y -> y.lastStraw(true), y -> y.lastStraw(false), y -> y.drain(1000),
            y -> y.soak(0), y -> y.trapped(true), y -> y.scale(999, 50), y -> y.estimate(2, 1000, 30), y -> y.wipe(),
            y -> y.count(3), RoomTest::typeAndWipe, RoomTest::measure,
        };
        for (int i = 0; i < calls.length; i++) {
            calls[i].run(warm);
            Seepwork x = new Seepwork();
            x.seed(3);
            before = bytes();
            int times = i < calls.length - TOLD_BY_SEVERAL ? CALLS - 1 : TIMES_BY_SEVERAL;
            for (int k = 0; k < times; k++) {
                calls[i].run(x);
            }
            long used = bytes() - before;
            if (used > MOST_BYTES_OF_ALL_CALLS) {
                Due.tell("the calls " + i + " take " + used + " bytes");
            }
        }
        Due.end();
    }

    private static void typeAndWipe(Seepwork x) {
        x.type('a');
        x.wipe();
    }

    private static void measure(Seepwork x) {
        x.type('c');
        x.type('u');
        x.type('t');
        x.measure(2, 900);
        x.wipe();
    }

    private static long bytes() {
        com.sun.management.ThreadMXBean threads =
                (com.sun.management.ThreadMXBean) ManagementFactory.getThreadMXBean();
        return threads.getThreadAllocatedBytes(Thread.currentThread().getId());
    }
}
