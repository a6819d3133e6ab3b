/** Promises 7 to 9, 11 and 12: gauges, their hands, and their certificates. */
public final class GaugesTest {
    private static final int NO_SUCH = -1, BAD_VALUE = -2, TOO_MANY = -4, NOT_POSSIBLE = -5, NONE = -6;

    public static void main(String[] args) {
        gauge();
        hands();
        reads();
        tune();
        certify();
        certifyAgain();
        wayOfATest();
        ofGauge();
        reading();
        emptiedPlaces();
        Due.end("GaugesTest");
    }

    private static void gauge() {
        GaugeColumns x = new GaugeColumns();
        int[][] bad = {{-100, 0, 1}, {100, 0, 1}, {0, -1, 1}, {0, 100, 1}, {0, 0, 0}, {0, 0, 100}, {0, 0, -1},
            {Integer.MIN_VALUE, 0, 1}, {0, Integer.MAX_VALUE, 1}, {0, 0, Integer.MIN_VALUE}};
        for (int[] it : bad) {
            Due.is("gauge: out of range", x.gauge(it[0], it[1], it[2]), BAD_VALUE);
        }
        Due.is("gauge: errors are not recorded", x.count(11), 0);
        int[][] good = {{-99, 0, 1}, {99, 0, 1}, {0, 99, 1}, {0, 0, 99}, {0, 0, 1}, {1, 2, 3}};
        for (int i = 0; i < good.length; i++) {
            Due.is("gauge: its number", x.gauge(good[i][0], good[i][1], good[i][2]), i);
            Due.is("gauge: its error", x.ofGauge(i, 0), good[i][0] + 100);
            Due.is("gauge: its play", x.ofGauge(i, 1), good[i][1]);
            Due.is("gauge: its step", x.ofGauge(i, 2), good[i][2]);
            Due.is("gauge: counted", x.count(1), i + 1);
        }
        Due.is("gauge: a 7th one", x.gauge(0, 0, 1), TOO_MANY);
        Due.is("gauge: a 7th one out of range", x.gauge(0, 0, 0), BAD_VALUE);
        Due.is("gauge: errors change nothing", x.count(1), 6);

        GaugeColumns y = new GaugeColumns();
        y.ring(100);
        y.gauge(0, 0, 1);
        y.certify(0);
        y.gauge(0, 0, 1);
        Due.is("gauge: leaves certificates", y.count(6), 1);
    }

    private static void hands() {
        GaugeColumns x = new GaugeColumns();
        x.ring(1);
        x.stack(0);
        x.gauge(15, 0, 1);
        x.gauge(-15, 0, 1);
        // 1010 * 15 / 1000 is 15.15, its size rounded down with both signs
        Due.is("hand: error 15", x.ofGauge(0, 3), 1025);
        Due.is("hand: error -15", x.ofGauge(1, 3), 995);

        GaugeColumns y = new GaugeColumns();
        y.ring(10);
        y.ring(30);
        y.gauge(0, 99, 1);
        Due.is("hand: goes at once to T less the play", y.ofGauge(0, 3), 901);
        y.stack(0);
        Due.is("hand: goes up", y.ofGauge(0, 3), 1001);
        y.take(0);
        Due.is("hand: stays in its play", y.ofGauge(0, 3), 1001);
        y.stack(1);
        Due.is("hand: goes up", y.ofGauge(0, 3), 1201);
        y.take(1);
        Due.is("hand: goes down to T and the play", y.ofGauge(0, 3), 1099);
        y.stack(0);
        Due.is("hand: stays", y.ofGauge(0, 3), 1099);

        GaugeColumns z = new GaugeColumns();
        z.set(1, 99);
        z.gauge(-99, 99, 1);
        // T is 101 - 9, which is less than the play
        Due.is("hand: stays at 0", z.ofGauge(0, 3), 0);
        Due.is("hand: reads 0", z.ofGauge(0, 4), 0);

        GaugeColumns w = new GaugeColumns();
        w.set(0, 0);
        w.set(1, 1);
        for (int i = 0; i < 14; i++) {
            w.ring(9999);
            w.stack(i);
        }
        w.gauge(99, 0, 99);
        w.gauge(-99, 0, 99);
        Due.is("hand: the greatest pressure", w.count(5), 13994600);
        Due.is("hand: the greatest one", w.ofGauge(0, 3), 15380065);
        Due.is("hand: the greatest one reads", w.ofGauge(0, 4), 15380046);
        Due.is("hand: with error -99", w.ofGauge(1, 3), 12609135);
    }

    private static void reads() {
        GaugeColumns x = new GaugeColumns();
        x.gauge(0, 5, 2);
        x.gauge(0, 6, 4);
        x.gauge(0, 7, 4);
        x.gauge(0, 0, 99);
        x.gauge(5, 0, 10);
        x.gauge(4, 0, 10);
        int[] hands = {995, 994, 993, 1000, 1005, 1004};
        int[] due = {996, 996, 992, 990, 1010, 1000};
        for (int i = 0; i < due.length; i++) {
            Due.is("reads: the hand", x.ofGauge(i, 3), hands[i]);
            Due.is("reads: a multiple of the step", x.ofGauge(i, 4), due[i]);
        }
    }

    private static void tune() {
        GaugeColumns x = new GaugeColumns();
        Due.is("tune without gauges", x.tune(0, 0), NO_SUCH);
        x.ring(100);
        x.gauge(10, 4, 1);
        x.gauge(0, 0, 1);
        Due.is("tune: the hand before", x.ofGauge(0, 3), 1006);
        Due.is("tune(0, -99)", x.tune(0, -99), 110);
        Due.is("tune: the hand goes from where it is", x.ofGauge(0, 3), 905);
        Due.is("tune(0, 99)", x.tune(0, 99), 1);
        Due.is("tune: the hand goes", x.ofGauge(0, 3), 1095);
        Due.is("tune(0, 95)", x.tune(0, 95), 199);
        Due.is("tune: the hand stays in its play", x.ofGauge(0, 3), 1095);
        Due.is("tune: its error", x.ofGauge(0, 0), 195);
        Due.is("tune: the other's error", x.ofGauge(1, 0), 100);
        Due.is("tune(0, 100)", x.tune(0, 100), BAD_VALUE);
        Due.is("tune(0, -100)", x.tune(0, -100), BAD_VALUE);
        Due.is("tune(2, 0)", x.tune(2, 0), NO_SUCH);
        Due.is("tune(-1, 0)", x.tune(-1, 0), NO_SUCH);
        Due.is("tune(2, 100)", x.tune(2, 100), NO_SUCH);
        Due.is("tune: errors are not recorded", x.count(11), 6);
        x.tune(0, 0);
        x.certify(0);
        x.certify(1);
        Due.is("tune: certificates before", x.count(6), 2);
        Due.is("tune: an error voids nothing", x.tune(0, 100), BAD_VALUE);
        Due.is("tune: an error voids nothing", x.count(6), 2);
        Due.is("tune: to what it is", x.tune(0, 0), 100);
        Due.is("tune: its certificate is gone", x.ofGauge(0, 5), 0);
        Due.is("tune: the other's is not", x.ofGauge(1, 5), 1);
    }

    private static void certify() {
        GaugeColumns x = new GaugeColumns();
        Due.is("certify(0) without gauges", x.certify(0), NO_SUCH);
        x.gauge(10, 0, 1);
        Due.is("certify(0) without rings", x.certify(0), NOT_POSSIBLE);
        Due.is("certify(1) without rings", x.certify(1), NO_SUCH);
        Due.is("certify(-1)", x.certify(-1), NO_SUCH);
        Due.is("certify: errors are not recorded", x.count(11), 1);
        x.ring(400);
        x.set(2, 49);
        // 500 grams weigh 499, so that the greatest wrong is 4990 * 10 / 1000
        Due.is("certify: passes at ALLOWED", x.certify(0), 49);
        Due.is("certify: has a certificate", x.ofGauge(0, 5), 1);
        Due.is("certify: the hand stays", x.ofGauge(0, 3), 1010);
        Due.is("certify: the column stays", x.count(2), 0);
        x.set(2, 48);
        x.tune(0, 10);
        Due.is("certify: one more than ALLOWED", x.certify(0), 49);
        Due.is("certify: no certificate", x.ofGauge(0, 5), 0);
        Due.is("certify: a change all the same", x.undo(), 5);
        Due.is("certify: nothing was different", x.ofGauge(0, 0), 110);
    }

    private static void certifyAgain() {
        GaugeColumns x = new GaugeColumns();
        x.gauge(10, 0, 1);
        x.ring(400);
        x.certify(0);
        x.set(0, 0);
        x.set(2, 0);
        Due.is("certify: does not pass", x.certify(0), 49);
        Due.is("certify: keeps what it has", x.ofGauge(0, 7), 4);
        Due.is("certify: keeps its greatest wrong", x.ofGauge(0, 6), 49);
        x.set(2, 50);
        Due.is("certify: passes again", x.certify(0), 49);
        Due.is("certify: the latest one", x.ofGauge(0, 7), 0);
        Due.is("certify: one alone", x.count(6), 1);
    }

    private static void wayOfATest() {
        GaugeColumns x = new GaugeColumns();
        x.ring(100);
        x.ring(20);
        x.ring(20);
        x.set(2, 999);
        x.gauge(0, 30, 7);
        x.stack(0);
        // Pressures 1200, 1400, 2400 up, 1400, 1200, 1000 down; hands 1170, 1370, 2370, 1430, 1230, 1030
        Due.is("way: the greatest wrong", x.certify(0), 32);
        int[] due = {1169, 1372, 2373, 1428, 1232, 1029};
        for (int place = 0; place < due.length; place++) {
            Due.is("way: reading(0, " + place + ")", x.reading(0, place), due[place]);
        }
        Due.is("way: the first one with it", x.test(0, 2), 4);
        Due.is("way: nothing of the column changes", x.count(2), 1);
        Due.is("way: the hand stays", x.ofGauge(0, 3), 1970);
    }

    private static void ofGauge() {
        GaugeColumns x = new GaugeColumns();
        Due.is("ofGauge(0, 8) without gauges", x.ofGauge(0, 8), NO_SUCH);
        x.ring(400);
        x.set(0, 7);
        x.gauge(-5, 3, 2);
        int[] before = {95, 3, 2, 992, 992, 0, NONE, NONE};
        for (int what = 0; what < before.length; what++) {
            Due.is("ofGauge(0, " + what + ")", x.ofGauge(0, what), before[what]);
        }
        // T is 4990 - 24, the hand 4963, and it reads 4964; on the way back T is 995, the hand 998
        Due.is("ofGauge: certify", x.certify(0), 26);
        x.set(0, 1);
        int[] behind = {95, 3, 2, 992, 992, 1, 26, 7};
        for (int what = 0; what < behind.length; what++) {
            Due.is("ofGauge(0, " + what + ")", x.ofGauge(0, what), behind[what]);
        }
        Due.is("ofGauge(0, -1)", x.ofGauge(0, -1), BAD_VALUE);
        Due.is("ofGauge(0, 8)", x.ofGauge(0, 8), BAD_VALUE);
        Due.is("ofGauge(1, 0)", x.ofGauge(1, 0), NO_SUCH);
        Due.is("ofGauge(-1, 0)", x.ofGauge(-1, 0), NO_SUCH);
        Due.is("ofGauge(1, 8)", x.ofGauge(1, 8), NO_SUCH);
    }

    private static void reading() {
        GaugeColumns x = new GaugeColumns();
        Due.is("reading(0, 0) without gauges", x.reading(0, 0), NO_SUCH);
        x.gauge(0, 0, 1);
        x.gauge(0, 1, 1);
        for (int i = 0; i < 14; i++) {
            x.ring(1);
        }
        Due.is("reading(0, 0) without a certificate", x.reading(0, 0), NO_SUCH);
        x.certify(0);
        x.certify(1);
        for (int place = 0; place < 28; place++) {
            int pressure = 1000 + 10 * (place < 14 ? place + 1 : 27 - place);
            Due.is("reading(0, " + place + ")", x.reading(0, place), pressure);
            Due.is("reading(1, " + place + ")", x.reading(1, place), place < 14 ? pressure - 1 : pressure + 1);
        }
        Due.is("reading(0, 28)", x.reading(0, 28), NO_SUCH);
        Due.is("reading(0, -1)", x.reading(0, -1), NO_SUCH);
        Due.is("reading(0, greatest int)", x.reading(0, Integer.MAX_VALUE), NO_SUCH);
        Due.is("reading(-1, 0)", x.reading(-1, 0), NO_SUCH);
        Due.is("reading(2, 0)", x.reading(2, 0), NO_SUCH);
        x.set(0, 9);
        Due.is("reading: of the certificate, not of now", x.reading(0, 13), 1140);
        x.tune(0, 0);
        Due.is("reading: void", x.reading(0, 0), NO_SUCH);
        x.lose();
        Due.is("reading: void", x.reading(1, 0), NO_SUCH);
    }

    /** A gauge that comes has neither the hand nor the certificate of one that was undone. */
    private static void emptiedPlaces() {
        GaugeColumns x = new GaugeColumns();
        x.ring(5000);
        x.stack(0);
        x.save(0);
        x.gauge(0, 0, 1);
        x.certify(0);
        x.restore(0);
        Due.is("emptied: no gauge", x.ofGauge(0, 0), NO_SUCH);
        Due.is("emptied: no certificate counts", x.count(6), 0);
        x.take(0);
        x.gauge(0, 20, 1);
        Due.is("emptied: its hand came from 0", x.ofGauge(0, 3), 980);
        Due.is("emptied: it has no certificate", x.ofGauge(0, 5), 0);
    }
}
