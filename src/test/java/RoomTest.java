import java.lang.management.ManagementFactory;

/** What runs of the dearest calls make: all calls of a run share some 600,000 objects with 7.3 million elements. */
public final class RoomTest {
    // Of the 512 calls of an object 16 make it full
    private static final int CALLS = 496;
    private static final long FEW = 200_000;
    private static final long MANY = 1_000_000;

    private static int kept = 0;

    public static void main(String[] args) {
        Due.holds("questions make next to nothing", bytesOf(RoomTest::ask) < FEW);
        Due.holds("certificates", bytesOf(RoomTest::certify) < MANY);
        Due.holds("full pads of certificates", bytesOf(RoomTest::carryOut) < MANY);
        Due.holds("changes, undone and restored", bytesOf(RoomTest::change) < FEW);
        Due.end("RoomTest");
    }

    private static long bytesOf(Runnable run) {
        com.sun.management.ThreadMXBean threads = (com.sun.management.ThreadMXBean) ManagementFactory.getThreadMXBean();
        long thread = Thread.currentThread().getId();
        run.run();
        long before = threads.getThreadAllocatedBytes(thread);
        run.run();
        return threads.getThreadAllocatedBytes(thread) - before;
    }

    private static GaugeColumns full() {
        GaugeColumns x = new GaugeColumns();
        x.set(2, 999);
        for (int i = 0; i < 14; i++) {
            x.ring(1 + i);
        }
        x.gauge(0, 0, 1);
        return x;
    }

    private static void ask() {
        GaugeColumns x = full();
        for (int i = 0; i < CALLS / 8; i++) {
            kept += x.nearest(1000 + i, 0) + x.nearest(1000 + i, 1) + x.test(0, 0) + x.bestError(0, 0) + x.bestError(0, 1)
                + x.pressure(i) + x.airCosts(9) + x.fault();
        }
    }

    private static void certify() {
        GaugeColumns x = full();
        for (int i = 0; i < CALLS; i++) {
            kept += x.certify(0);
        }
        Due.is("room: certified", x.count(6), 1);
    }

    private static void carryOut() {
        GaugeColumns x = full();
        for (int i = 0; i < CALLS / 11; i++) {
            StringBuilder text = new StringBuilder("t0");
            while (text.length() < 78) {
                text.append(";t0");
            }
            Due.put(x, text.toString());
            Due.is("room: carried out", x.carryOut(), 27);
        }
    }

    private static void change() {
        GaugeColumns x = full();
        for (int i = 0; i < CALLS / 8; i++) {
            kept += x.stack(i % 14) + x.set(0, i % 10) + x.save(i % 2) + x.take(i % 14) + x.undo() + x.restore(i % 2) + x.tune(0, i % 99)
                + x.lose();
        }
    }
}
