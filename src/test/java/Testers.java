import java.util.ArrayList;
import java.util.List;

/** Testers that several tests start from, and what there is to see of one. */
final class Testers {
    private Testers() {
    }

    static GaugeColumns withRings(int... grams) {
        GaugeColumns x = new GaugeColumns();
        for (int mass : grams) {
            x.ring(mass);
        }
        return x;
    }

    /** All 14 rings of 9999 grams, stacked: 140086 grams with the carrier. */
    static GaugeColumns heaviest() {
        GaugeColumns x = new GaugeColumns();
        for (int i = 0; i < 14; i++) {
            x.ring(9999);
            x.stack(i);
        }
        return x;
    }

    /** Two rings, and six gauges, each with a certificate. */
    static GaugeColumns certified() {
        GaugeColumns x = withRings(100, 50);
        for (int i = 0; i < 6; i++) {
            x.gauge(0, i, 1);
            x.certify(i);
        }
        Due.is("certified: count(6)", x.count(6), 6);
        return x;
    }

    static int carryOut(GaugeColumns x, String text) {
        Due.put(x, text);
        return x.carryOut();
    }

    /** Everything but the pad, the slots and the history: what undo() and restore() bring back. */
    static int[] state(GaugeColumns x) {
        List<Integer> seen = new ArrayList<>();
        for (int what = 0; what < 10; what++) {
            seen.add(x.count(what));
        }
        for (int ring = 0; ring < x.count(0); ring++) {
            for (int what = 0; what < 3; what++) {
                seen.add(x.ofRing(ring, what));
            }
        }
        for (int gauge = 0; gauge < x.count(1); gauge++) {
            for (int what = 0; what < 8; what++) {
                seen.add(x.ofGauge(gauge, what));
            }
            seen.addAll(readings(x, gauge));
        }
        return seen.stream().mapToInt(it -> it).toArray();
    }

    static List<Integer> readings(GaugeColumns x, int gauge) {
        List<Integer> readings = new ArrayList<>();
        int reading = x.reading(gauge, 0);
        while (reading != GaugeColumns.NO_SUCH) {
            readings.add(reading);
            reading = x.reading(gauge, readings.size());
        }
        return readings;
    }

    /** The pad and the history as far as they can be seen without a change. */
    static int[] padAndHistory(GaugeColumns x) {
        return new int[] {x.count(10), x.fault(), x.count(11)};
    }
}
