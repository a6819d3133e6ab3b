/** Promises 1 to 6, 10 and 13: a new object, settings, rings, the column. */
public final class SettingsAndRingsTest {
    private static final int NO_SUCH = -1, BAD_VALUE = -2, TOO_MANY = -4, NOT_POSSIBLE = -5, NONE = -6;

    public static void main(String[] args) {
        newObject();
        set();
        setMovesHands();
        setAndCertificates();
        ring();
        lose();
        stack();
        take();
        ofRing();
        count();
        weightAndPressure();
        sixGauges();
        Due.end("SettingsAndRingsTest");
    }

    private static void newObject() {
        int[] due = {0, 0, 0, 100, 100, 1000, 0, 4, 10, 50, 0, 0};
        GaugeColumns x = new GaugeColumns();
        for (int what = 0; what < due.length; what++) {
            Due.is("new: count(" + what + ")", x.count(what), due[what]);
        }
        Due.is("new: ofRing(0, 0)", x.ofRing(0, 0), NO_SUCH);
        Due.is("new: ofGauge(0, 0)", x.ofGauge(0, 0), NO_SUCH);
        Due.is("new: undo()", x.undo(), NOT_POSSIBLE);
        Due.is("new: restore(0)", x.restore(0), NOT_POSSIBLE);
        x.ring(5);
        x.set(0, 0);
        Due.is("another new object: count(0)", new GaugeColumns().count(0), 0);
        Due.is("another new object: count(7)", new GaugeColumns().count(7), 4);
    }

    private static void set() {
        int[] first = {4, 10, 50};
        int[] least = {0, 1, 0};
        int[] most = {9, 99, 999};
        for (int setting = 0; setting < 3; setting++) {
            GaugeColumns x = new GaugeColumns();
            Due.is("set: to the least", x.set(setting, least[setting]), first[setting]);
            Due.is("set: to the most", x.set(setting, most[setting]), least[setting]);
            Due.is("set: below", x.set(setting, least[setting] - 1), BAD_VALUE);
            Due.is("set: above", x.set(setting, most[setting] + 1), BAD_VALUE);
            Due.is("set: far below", x.set(setting, Integer.MIN_VALUE), BAD_VALUE);
            Due.is("set: far above", x.set(setting, Integer.MAX_VALUE), BAD_VALUE);
            Due.is("set: errors change nothing", x.count(7 + setting), most[setting]);
            Due.is("set: to what it is", x.set(setting, most[setting]), most[setting]);
            Due.is("set: errors are not recorded", x.count(11), 3);
            for (int other = 0; other < 3; other++) {
                Due.is("set: one alone", x.count(7 + other), other == setting ? most[other] : first[other]);
            }
        }
        GaugeColumns x = new GaugeColumns();
        int[] none = {-1, 3, Integer.MIN_VALUE, Integer.MAX_VALUE};
        for (int setting : none) {
            Due.is("set(" + setting + ", 5)", x.set(setting, 5), BAD_VALUE);
        }
        Due.is("set: errors are not recorded", x.count(11), 0);
    }

    private static void setMovesHands() {
        GaugeColumns x = new GaugeColumns();
        x.ring(9999);
        x.gauge(0, 0, 1);
        x.stack(0);
        // 10099 grams: 12.1188 of them float in the air 4, 10.099 in 0, 14.64355 in 9
        Due.is("hand: AIR 4", x.ofGauge(0, 3), 100870);
        x.set(0, 0);
        Due.is("hand: AIR 0", x.ofGauge(0, 3), 100890);
        x.set(0, 9);
        Due.is("hand: AIR 9", x.ofGauge(0, 3), 100840);
        x.set(1, 99);
        Due.is("hand: AREA 99", x.ofGauge(0, 3), 10185);
        x.set(1, 1);
        Due.is("hand: AREA 1", x.ofGauge(0, 3), 1008400);
    }

    private static void setAndCertificates() {
        GaugeColumns x = certified();
        x.set(0, 9);
        x.set(2, 0);
        Due.is("set: AIR and ALLOWED leave certificates", x.count(6), 2);
        Due.is("set: AREA out of its range leaves them", x.set(1, 0), BAD_VALUE);
        Due.is("set: AREA out of its range leaves them", x.count(6), 2);
        x.set(1, 10);
        Due.is("set: AREA voids them, also by what it is", x.count(6), 0);
        Due.is("set: AREA voids the first", x.ofGauge(0, 5), 0);
        Due.is("set: AREA voids the second", x.ofGauge(1, 6), NONE);
    }

    /** A tester of two rings, and two gauges with certificates. */
    private static GaugeColumns certified() {
        GaugeColumns x = new GaugeColumns();
        x.ring(100);
        x.ring(50);
        x.gauge(0, 0, 1);
        x.gauge(0, 3, 1);
        x.certify(0);
        x.certify(1);
        Due.is("certified: count(6)", x.count(6), 2);
        return x;
    }

    private static void ring() {
        GaugeColumns x = new GaugeColumns();
        Due.is("ring(0)", x.ring(0), BAD_VALUE);
        Due.is("ring(10000)", x.ring(10000), BAD_VALUE);
        Due.is("ring(least int)", x.ring(Integer.MIN_VALUE), BAD_VALUE);
        for (int i = 0; i < 14; i++) {
            Due.is("ring: its number", x.ring(i == 0 ? 1 : 9999), i);
            Due.is("ring: counted", x.count(0), i + 1);
            Due.is("ring: not stacked", x.ofRing(i, 1), 0);
        }
        Due.is("ring: a 15th one", x.ring(1), TOO_MANY);
        Due.is("ring: a 15th one of 0 grams", x.ring(0), BAD_VALUE);
        Due.is("ring: a 15th one of 10000 grams", x.ring(10000), BAD_VALUE);
        Due.is("ring: errors change nothing", x.count(0), 14);
        Due.is("ring: the column stays", x.count(3), 100);
        Due.is("ring: errors are not recorded", x.undo(), 5);
        Due.is("ring: undone", x.count(0), 13);
        Due.is("ring: again", x.ring(7), 13);
        Due.is("ring: its grams", x.ofRing(13, 0), 7);

        GaugeColumns y = certified();
        y.ring(0);
        Due.is("ring: an error voids nothing", y.count(6), 2);
        y.ring(1);
        Due.is("ring: voids certificates", y.count(6), 0);
    }

    private static void lose() {
        GaugeColumns x = new GaugeColumns();
        Due.is("lose() without rings", x.lose(), NOT_POSSIBLE);
        Due.is("lose: errors are not recorded", x.count(11), 0);
        x.ring(300);
        x.ring(20);
        x.gauge(0, 5, 1);
        x.stack(0);
        x.stack(1);
        // Of 420 grams 0.504 float
        Due.is("lose: the hand before", x.ofGauge(0, 3), 4185);
        Due.is("lose()", x.lose(), 20);
        Due.is("lose: out of the column", x.count(2), 1);
        Due.is("lose: the mass", x.count(3), 400);
        Due.is("lose: the pressure", x.count(5), 4000);
        Due.is("lose: the hand goes", x.ofGauge(0, 3), 4005);
        Due.is("lose: gone", x.ofRing(1, 0), NO_SUCH);
        Due.is("lose: another in its place", x.ring(7), 1);
        Due.is("lose: that is not stacked", x.count(2), 1);
        Due.is("lose: one that is not stacked", x.lose(), 7);
        Due.is("lose: the column stays", x.count(2), 1);
        Due.is("lose: the last one", x.lose(), 300);
        Due.is("lose: none is left", x.lose(), NOT_POSSIBLE);
        Due.is("lose: the carrier stays", x.count(3), 100);

        GaugeColumns y = certified();
        y.lose();
        Due.is("lose: voids certificates", y.count(6), 0);
    }

    private static void stack() {
        GaugeColumns x = new GaugeColumns();
        Due.is("stack(0) without rings", x.stack(0), NO_SUCH);
        x.ring(500);
        x.ring(200);
        x.gauge(10, 0, 1);
        Due.is("stack(1)", x.stack(1), 3000);
        Due.is("stack: the set", x.count(2), 2);
        Due.is("stack: the hand goes", x.ofGauge(0, 3), 3030);
        Due.is("stack(1) again", x.stack(1), NOT_POSSIBLE);
        Due.is("stack(-1)", x.stack(-1), NO_SUCH);
        Due.is("stack(2)", x.stack(2), NO_SUCH);
        Due.is("stack(33)", x.stack(33), NO_SUCH);
        Due.is("stack(least int)", x.stack(Integer.MIN_VALUE), NO_SUCH);
        Due.is("stack: errors are not recorded", x.count(11), 4);
        Due.is("stack(0)", x.stack(0), 7990);
        Due.is("stack: both", x.count(2), 3);
        GaugeColumns y = certified();
        y.stack(0);
        Due.is("stack: leaves certificates", y.count(6), 2);
    }

    private static void take() {
        GaugeColumns x = new GaugeColumns();
        Due.is("take(0) without rings", x.take(0), NO_SUCH);
        x.ring(500);
        x.ring(200);
        x.gauge(0, 0, 1);
        x.stack(0);
        x.stack(1);
        Due.is("take(0)", x.take(0), 3000);
        Due.is("take: the set", x.count(2), 2);
        Due.is("take: the hand goes", x.ofGauge(0, 3), 3000);
        Due.is("take(0) again", x.take(0), NOT_POSSIBLE);
        Due.is("take(-1)", x.take(-1), NO_SUCH);
        Due.is("take(2)", x.take(2), NO_SUCH);
        Due.is("take(greatest int)", x.take(Integer.MAX_VALUE), NO_SUCH);
        Due.is("take: errors are not recorded", x.count(11), 6);
        Due.is("take(1)", x.take(1), 1000);
        Due.is("take: none is stacked", x.count(2), 0);
        Due.is("take: the rings stay", x.count(0), 2);
        GaugeColumns y = certified();
        y.stack(0);
        y.take(0);
        Due.is("take: leaves certificates", y.count(6), 2);
    }

    private static void ofRing() {
        GaugeColumns x = new GaugeColumns();
        int[] grams = {500, 200, 500, 9999, 200};
        int[] places = {2, 0, 3, 4, 1};
        for (int mass : grams) {
            x.ring(mass);
        }
        x.stack(2);
        for (int i = 0; i < grams.length; i++) {
            Due.is("ofRing: grams", x.ofRing(i, 0), grams[i]);
            Due.is("ofRing: stacked", x.ofRing(i, 1), i == 2 ? 1 : 0);
            Due.is("ofRing: place", x.ofRing(i, 2), places[i]);
        }
        Due.is("ofRing(5, 0)", x.ofRing(5, 0), NO_SUCH);
        Due.is("ofRing(-1, 0)", x.ofRing(-1, 0), NO_SUCH);
        Due.is("ofRing(5, 3)", x.ofRing(5, 3), NO_SUCH);
        Due.is("ofRing(0, 3)", x.ofRing(0, 3), BAD_VALUE);
        Due.is("ofRing(0, -1)", x.ofRing(0, -1), BAD_VALUE);
    }

    private static void count() {
        GaugeColumns x = certified();
        x.stack(1);
        x.set(0, 7);
        x.set(2, 60);
        Due.put(x, "m1;m");
        int[] due = {2, 2, 2, 150, 150, 1500, 2, 7, 10, 60, 4, 6};
        for (int what = 0; what < due.length; what++) {
            Due.is("count(" + what + ")", x.count(what), due[what]);
        }
        Due.is("count(12)", x.count(12), BAD_VALUE);
        Due.is("count(-1)", x.count(-1), BAD_VALUE);
        Due.is("count(least int)", x.count(Integer.MIN_VALUE), BAD_VALUE);
    }

    private static void weightAndPressure() {
        GaugeColumns x = new GaugeColumns();
        x.set(0, 0);
        x.ring(399);
        x.ring(1);
        x.stack(0);
        Due.is("weight: 0.499 float", x.count(4), 499);
        x.stack(1);
        Due.is("weight: 0.5 float, a half up", x.count(4), 499);
        x.set(1, 3);
        Due.is("pressure: rounded down", x.count(5), 16633);
        x.set(1, 99);
        Due.is("pressure: rounded down", x.count(5), 504);

        GaugeColumns y = new GaugeColumns();
        y.set(0, 9);
        for (int i = 0; i < 14; i++) {
            y.ring(i < 13 ? 9999 : 9567);
            y.stack(i);
        }
        // 139654 * 145 / 100000 is 202.4983
        Due.is("weight: a little less than a half", y.count(4), 139452);
    }

    /** Every gauge that there can be follows, and loses its certificate. */
    private static void sixGauges() {
        GaugeColumns x = new GaugeColumns();
        x.ring(100);
        for (int i = 0; i < 6; i++) {
            x.gauge(0, i, 1);
            x.certify(i);
            Due.is("six gauges: certificates", x.count(6), i + 1);
        }
        x.stack(0);
        for (int i = 0; i < 6; i++) {
            Due.is("six gauges: hand " + i, x.ofGauge(i, 3), 2000 - i);
        }
        x.ring(1);
        for (int i = 0; i < 6; i++) {
            Due.is("six gauges: void " + i, x.ofGauge(i, 5), 0);
        }
        Due.is("six gauges: none", x.count(6), 0);
    }
}
