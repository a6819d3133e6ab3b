/** Promises 1 to 9: a test for each sentence that names a boundary case, in the order of the document. */
public final class ChangesBoundaryTest {
    private static final int NO_SUCH = -1, BAD_VALUE = -2, TOO_MANY = -4, NOT_POSSIBLE = -5, NONE = -6;
    private static final int LEAST = Integer.MIN_VALUE, GREATEST = Integer.MAX_VALUE;

    public static void main(String[] args) {
        withoutRingsAndGauges();
        setReturnsThePrevious();
        setNoSuchSetting();
        setOutOfItsRange();
        ringNumbers();
        ringOutOfRange();
        ringTooMany();
        loseTheLast();
        loseOutOfTheColumn();
        loseNone();
        stackReturnsThePressure();
        stackNoSuch();
        stackStacked();
        takeReturnsThePressure();
        takeNoSuch();
        takeNotStacked();
        gaugeGoesAtOnce();
        gaugeNumbers();
        gaugeOutOfRange();
        gaugeTooMany();
        tuneMovesTheHand();
        tuneReturns100More();
        tuneNoSuch();
        tuneOutOfRange();
        certifyIfItPasses();
        certifyKeepsOtherwise();
        certifyReturnsTheGreatest();
        certifyNoSuch();
        certifyWithoutRings();
        Due.end("ChangesBoundaryTest");
    }

    private static void withoutRingsAndGauges() {
        Due.sentence("Promise 1: a tester without rings and gauges");
        GaugeColumns x = new GaugeColumns();
        int[] due = {0, 0, 0, 100, 100, 1000, 0, 4, 10, 50, 0, 0};
        for (int what = 0; what < due.length; what++) {
            Due.is("count(" + what + ")", x.count(what), due[what]);
        }
        Due.is("ofRing(0, 0)", x.ofRing(0, 0), NO_SUCH);
        Due.is("ofGauge(0, 0)", x.ofGauge(0, 0), NO_SUCH);
        Due.is("lose()", x.lose(), NOT_POSSIBLE);
        Due.is("undo()", x.undo(), NOT_POSSIBLE);
        Due.is("restore(0)", x.restore(0), NOT_POSSIBLE);
        Due.is("restore(1)", x.restore(1), NOT_POSSIBLE);
        Due.is("wipe()", x.wipe(), 0);
        Due.is("nearest(0, 1)", x.nearest(0, 1), 1000);
        Due.is("pressure(1)", x.pressure(1), 1000);
    }

    private static void setReturnsThePrevious() {
        Due.sentence("Promise 2: returns the previous value");
        int[] first = {4, 10, 50};
        int[] edge = {0, 1, 0};
        for (int setting = 0; setting < 3; setting++) {
            GaugeColumns x = new GaugeColumns();
            Due.is("set(" + setting + ", ..) to the least", x.set(setting, edge[setting]), first[setting]);
            Due.is("set(" + setting + ", ..) to what it is", x.set(setting, edge[setting]), edge[setting]);
            Due.is("set(" + setting + ", ..) back", x.set(setting, first[setting]), edge[setting]);
        }
    }

    private static void setNoSuchSetting() {
        Due.sentence("Promise 2: BAD_VALUE if there is no such setting");
        GaugeColumns x = new GaugeColumns();
        for (int setting : new int[] {-1, 3, 4, LEAST, GREATEST}) {
            Due.is("set(" + setting + ", 5)", x.set(setting, 5), BAD_VALUE);
        }
        Due.is("set(2, 5)", x.set(2, 5), 50);
    }

    private static void setOutOfItsRange() {
        Due.sentence("Promise 2: BAD_VALUE if the value is out of its range");
        GaugeColumns x = new GaugeColumns();
        int[][] outside = {{0, -1}, {0, 10}, {1, 0}, {1, 100}, {2, -1}, {2, 1000}};
        for (int[] it : outside) {
            Due.is("set(" + it[0] + ", " + it[1] + ")", x.set(it[0], it[1]), BAD_VALUE);
        }
        for (int setting = 0; setting < 3; setting++) {
            Due.is("set(" + setting + ", least int)", x.set(setting, LEAST), BAD_VALUE);
            Due.is("set(" + setting + ", greatest int)", x.set(setting, GREATEST), BAD_VALUE);
        }
        Due.is("AIR", x.count(7), 4);
        Due.is("AREA", x.count(8), 10);
        Due.is("ALLOWED", x.count(9), 50);
    }

    private static void ringNumbers() {
        Due.sentence("Promise 3: returns its number");
        GaugeColumns x = new GaugeColumns();
        for (int i = 0; i < 14; i++) {
            Due.is("ring()", x.ring(i % 2 == 0 ? 1 : 9999), i);
        }
        x.lose();
        Due.is("of one in the place of the lost one", x.ring(77), 13);
        Due.is("its grams", x.ofRing(13, 0), 77);
    }

    private static void ringOutOfRange() {
        Due.sentence("Promise 3: BAD_VALUE if grams is out of range");
        GaugeColumns x = new GaugeColumns();
        for (int grams : new int[] {0, -1, 10000, LEAST, GREATEST}) {
            Due.is("ring(" + grams + ")", x.ring(grams), BAD_VALUE);
        }
        Due.is("none came", x.count(0), 0);
        Due.is("the least", x.ring(1), 0);
        Due.is("the most", x.ring(9999), 1);
    }

    private static void ringTooMany() {
        Due.sentence("Promise 3: TOO_MANY if there are 14 rings");
        GaugeColumns x = Testers.withRings(1, 2, 3, 4, 5, 6, 7, 8, 9, 10, 11, 12, 13);
        Due.is("with 13", x.ring(14), 13);
        Due.is("with 14", x.ring(15), TOO_MANY);
        Due.is("with 14 again", x.ring(15), TOO_MANY);
        Due.is("14 are there", x.count(0), 14);
        Due.is("the last one stays", x.ofRing(13, 0), 14);
        x.lose();
        Due.is("with 13 again", x.ring(16), 13);
    }

    private static void loseTheLast() {
        Due.sentence("Promise 4: the last ring goes; returns its grams");
        GaugeColumns x = Testers.withRings(1, 9999, 5);
        Due.is("lose()", x.lose(), 5);
        Due.is("lose()", x.lose(), 9999);
        Due.is("it is gone", x.ofRing(1, 0), NO_SUCH);
        Due.is("the only one", x.lose(), 1);
        Due.is("none", x.count(0), 0);
        GaugeColumns full = Testers.heaviest();
        Due.is("of 14", full.lose(), 9999);
        Due.is("13", full.count(0), 13);
    }

    private static void loseOutOfTheColumn() {
        Due.sentence("Promise 4: also out of the column");
        GaugeColumns x = Testers.heaviest();
        x.gauge(0, 0, 1);
        x.lose();
        Due.is("the column", x.count(2), 8191);
        Due.is("its mass", x.count(3), 130087);
        Due.is("the hand", x.ofGauge(0, 3), x.count(5));
        x.ring(1);
        Due.is("another one in its place is not stacked", x.count(2), 8191);
        Due.is("another one in its place is not stacked", x.ofRing(13, 1), 0);
        x.lose();
        Due.is("one that was not stacked", x.count(2), 8191);
        GaugeColumns y = Testers.withRings(7);
        y.stack(0);
        y.lose();
        Due.is("the only one", y.count(2), 0);
    }

    private static void loseNone() {
        Due.sentence("Promise 4: NOT_POSSIBLE if there is none");
        GaugeColumns x = new GaugeColumns();
        Due.is("lose()", x.lose(), NOT_POSSIBLE);
        x.ring(1);
        Due.is("with one", x.lose(), 1);
        Due.is("behind the last", x.lose(), NOT_POSSIBLE);
        Due.is("still none", x.count(0), 0);
    }

    private static void stackReturnsThePressure() {
        Due.sentence("Promise 5: returns the pressure then");
        GaugeColumns x = Testers.heaviest();
        x.set(0, 0);
        x.set(1, 1);
        x.take(13);
        Due.is("all 14", x.stack(13), 13994600);
        GaugeColumns y = Testers.withRings(1);
        y.set(1, 99);
        Due.is("the lightest", y.stack(0), 102);
    }

    private static void stackNoSuch() {
        Due.sentence("Promise 5: NO_SUCH if there is no such ring");
        GaugeColumns x = new GaugeColumns();
        Due.is("stack(0) without rings", x.stack(0), NO_SUCH);
        x.ring(1);
        x.ring(1);
        // Shifts by 32 or 64 more would come to the rings 0 and 1
        for (int ring : new int[] {-1, 2, 13, 14, 32, 33, 64, -32, -31, LEAST, GREATEST}) {
            Due.is("stack(" + ring + ")", x.stack(ring), NO_SUCH);
        }
        x.lose();
        Due.is("a ring that is lost", x.stack(1), NO_SUCH);
        Due.is("none is stacked", x.count(2), 0);
    }

    private static void stackStacked() {
        Due.sentence("Promise 5: NOT_POSSIBLE if it is stacked");
        GaugeColumns x = Testers.heaviest();
        for (int ring = 0; ring < 14; ring++) {
            Due.is("stack(" + ring + ")", x.stack(ring), NOT_POSSIBLE);
        }
        x.take(13);
        Due.is("another one", x.stack(12), NOT_POSSIBLE);
        Due.is("one that was taken", x.stack(13), 1399180);
    }

    private static void takeReturnsThePressure() {
        Due.sentence("Promise 6: returns the pressure then");
        GaugeColumns x = Testers.heaviest();
        Due.is("the first of 14", x.take(0), 1299310);
        for (int ring = 1; ring < 13; ring++) {
            x.take(ring);
        }
        Due.is("the last of 14: of the carrier", x.take(13), 1000);
        Due.is("the rings stay", x.count(0), 14);
    }

    private static void takeNoSuch() {
        Due.sentence("Promise 6: NO_SUCH if there is no such ring");
        GaugeColumns x = new GaugeColumns();
        Due.is("take(0) without rings", x.take(0), NO_SUCH);
        x.ring(1);
        x.ring(1);
        x.stack(0);
        x.stack(1);
        for (int ring : new int[] {-1, 2, 13, 14, 32, 33, 64, -32, -31, LEAST, GREATEST}) {
            Due.is("take(" + ring + ")", x.take(ring), NO_SUCH);
        }
        Due.is("both are stacked", x.count(2), 3);
        x.lose();
        Due.is("a ring that is lost", x.take(1), NO_SUCH);
    }

    private static void takeNotStacked() {
        Due.sentence("Promise 6: NOT_POSSIBLE if it is not stacked");
        GaugeColumns x = Testers.withRings(1, 1);
        Due.is("never stacked", x.take(0), NOT_POSSIBLE);
        x.stack(0);
        Due.is("another one is", x.take(1), NOT_POSSIBLE);
        x.take(0);
        Due.is("taken already", x.take(0), NOT_POSSIBLE);
    }

    private static void gaugeGoesAtOnce() {
        Due.sentence("Promise 7: its hand is at 0, and goes with the pressure at once");
        GaugeColumns x = Testers.heaviest();
        x.gauge(0, 0, 1);
        Due.is("without play", x.ofGauge(0, 3), 1399180);
        x.gauge(0, 99, 1);
        Due.is("from 0 to T less the play", x.ofGauge(1, 3), 1399081);
        GaugeColumns y = new GaugeColumns();
        y.set(1, 99);
        y.gauge(0, 99, 1);
        y.gauge(-99, 99, 1);
        Due.is("the least pressure", y.ofGauge(0, 3), 2);
        Due.is("T less the play is below 0", y.ofGauge(1, 3), 0);
        y.undo();
        y.set(1, 1);
        y.gauge(-99, 99, 1);
        Due.is("one that came before leaves no trace", y.ofGauge(1, 3), 8911);
    }

    private static void gaugeNumbers() {
        Due.sentence("Promise 7: returns its number");
        GaugeColumns x = new GaugeColumns();
        for (int i = 0; i < 6; i++) {
            Due.is("gauge()", x.gauge(i % 2 == 0 ? -99 : 99, i % 2 * 99, 99 - i), i);
        }
        Due.is("six", x.count(1), 6);
        Due.is("the last one's step", x.ofGauge(5, 2), 94);
    }

    private static void gaugeOutOfRange() {
        Due.sentence("Promise 7: BAD_VALUE if an argument is out of range");
        GaugeColumns x = new GaugeColumns();
        int[][] outside = {{-100, 0, 1}, {100, 0, 1}, {LEAST, 0, 1}, {GREATEST, 0, 1}, {0, -1, 1}, {0, 100, 1}, {0, LEAST, 1},
            {0, GREATEST, 1}, {0, 0, 0}, {0, 0, -1}, {0, 0, 100}, {0, 0, LEAST}, {0, 0, GREATEST}};
        for (int[] it : outside) {
            Due.is("gauge(" + it[0] + ", " + it[1] + ", " + it[2] + ")", x.gauge(it[0], it[1], it[2]), BAD_VALUE);
        }
        Due.is("none came", x.count(1), 0);
        int[][] inside = {{-99, 0, 1}, {99, 0, 1}, {0, 99, 1}, {0, 0, 99}};
        for (int i = 0; i < inside.length; i++) {
            Due.is("at the edge", x.gauge(inside[i][0], inside[i][1], inside[i][2]), i);
        }
    }

    private static void gaugeTooMany() {
        Due.sentence("Promise 7: TOO_MANY if there are 6 gauges");
        GaugeColumns x = new GaugeColumns();
        for (int i = 0; i < 5; i++) {
            x.gauge(0, 0, 1);
        }
        Due.is("with 5", x.gauge(0, 9, 1), 5);
        Due.is("with 6", x.gauge(0, 0, 1), TOO_MANY);
        Due.is("6 are there", x.count(1), 6);
        Due.is("the last one stays", x.ofGauge(5, 1), 9);
    }

    private static void tuneMovesTheHand() {
        Due.sentence("Promise 8: its error becomes another one, and its hand goes");
        GaugeColumns x = new GaugeColumns();
        x.gauge(0, 0, 1);
        x.gauge(0, 99, 1);
        x.gauge(0, 0, 1);
        x.tune(0, 99);
        Due.is("up", x.ofGauge(0, 3), 1099);
        x.tune(0, -99);
        Due.is("down", x.ofGauge(0, 3), 901);
        Due.is("its error", x.ofGauge(0, 0), 1);
        x.tune(1, -99);
        Due.is("at T less the play it stays", x.ofGauge(1, 3), 901);
        x.tune(1, 99);
        Due.is("up to T less the play", x.ofGauge(1, 3), 1000);
        x.tune(1, -98);
        Due.is("in its play it stays", x.ofGauge(1, 3), 1000);
        Due.is("another one stays", x.ofGauge(2, 3), 1000);
    }

    private static void tuneReturns100More() {
        Due.sentence("Promise 8: returns the previous one, and 100 more");
        GaugeColumns x = new GaugeColumns();
        x.gauge(-99, 0, 1);
        Due.is("of -99", x.tune(0, 99), 1);
        Due.is("of 99", x.tune(0, 0), 199);
        Due.is("of 0", x.tune(0, 0), 100);
    }

    private static void tuneNoSuch() {
        Due.sentence("Promise 8: NO_SUCH if there is no such gauge");
        GaugeColumns x = new GaugeColumns();
        Due.is("tune(0, 0) without gauges", x.tune(0, 0), NO_SUCH);
        x.gauge(0, 0, 1);
        for (int gauge : new int[] {-1, 1, 5, 6, LEAST, GREATEST}) {
            Due.is("tune(" + gauge + ", 5)", x.tune(gauge, 5), NO_SUCH);
        }
        x.undo();
        Due.is("tune(0, 0) of one that is undone", x.tune(0, 0), NO_SUCH);
        GaugeColumns six = Testers.certified();
        Due.is("tune(5, 1) of 6", six.tune(5, 1), 100);
        Due.is("tune(6, 1) of 6", six.tune(6, 1), NO_SUCH);
    }

    private static void tuneOutOfRange() {
        Due.sentence("Promise 8: BAD_VALUE if error is out of range");
        GaugeColumns x = new GaugeColumns();
        x.gauge(7, 0, 1);
        for (int error : new int[] {-100, 100, LEAST, GREATEST}) {
            Due.is("tune(0, " + error + ")", x.tune(0, error), BAD_VALUE);
        }
        Due.is("its error stays", x.ofGauge(0, 0), 107);
        Due.is("its hand stays", x.ofGauge(0, 3), 1007);
        Due.is("the least", x.tune(0, -99), 107);
        Due.is("the most", x.tune(0, 99), 1);
    }

    private static void certifyIfItPasses() {
        Due.sentence("Promise 9: gives it a certificate if it passes");
        GaugeColumns x = Testers.withRings(400);
        x.gauge(10, 0, 1);
        x.set(2, 48);
        x.certify(0);
        Due.is("49 of 48", x.ofGauge(0, 5), 0);
        x.set(2, 49);
        x.certify(0);
        Due.is("49 of 49", x.ofGauge(0, 5), 1);
        Due.is("49 of 49", x.ofGauge(0, 6), 49);
    }

    private static void certifyKeepsOtherwise() {
        Due.sentence("Promise 9: otherwise it keeps what it has");
        GaugeColumns x = Testers.withRings(400);
        x.gauge(10, 0, 1);
        x.set(2, 48);
        x.certify(0);
        Due.is("none", x.ofGauge(0, 6), NONE);
        x.set(2, 49);
        x.certify(0);
        x.set(0, 0);
        x.set(2, 48);
        Due.is("does not pass", x.certify(0), 49);
        Due.is("the one that it had", x.ofGauge(0, 7), 4);
        Due.is("its reading", x.reading(0, 0), 5039);
    }

    private static void certifyReturnsTheGreatest() {
        Due.sentence("Promise 9: returns the greatest wrong of its test");
        GaugeColumns x = Testers.heaviest();
        x.set(0, 0);
        x.set(1, 1);
        x.gauge(99, 0, 1);
        x.gauge(0, 0, 1);
        Due.is("the greatest error", x.certify(0), 1385465);
        Due.is("never wrong", x.certify(1), 0);
        Due.is("a certificate of 0", x.ofGauge(1, 6), 0);
    }

    private static void certifyNoSuch() {
        Due.sentence("Promise 9: NO_SUCH if there is no such gauge");
        GaugeColumns x = Testers.withRings(1);
        Due.is("certify(0) without gauges", x.certify(0), NO_SUCH);
        x.gauge(0, 0, 1);
        for (int gauge : new int[] {-1, 1, 5, 6, LEAST, GREATEST}) {
            Due.is("certify(" + gauge + ")", x.certify(gauge), NO_SUCH);
        }
        GaugeColumns six = Testers.certified();
        Due.is("certify(5) of 6", six.certify(5), 5);
        Due.is("certify(6) of 6", six.certify(6), NO_SUCH);
    }

    private static void certifyWithoutRings() {
        Due.sentence("Promise 9: NOT_POSSIBLE if there are no rings");
        GaugeColumns x = new GaugeColumns();
        x.gauge(0, 0, 1);
        Due.is("certify(0)", x.certify(0), NOT_POSSIBLE);
        x.ring(1);
        Due.is("with one that is not stacked", x.certify(0), 0);
        x.lose();
        Due.is("behind the last", x.certify(0), NOT_POSSIBLE);
    }
}
