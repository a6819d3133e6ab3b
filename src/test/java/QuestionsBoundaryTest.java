/** Promises 10 to 18: a test for each sentence that names a boundary case, in the order of the document. */
public final class QuestionsBoundaryTest {
    private static final int NO_SUCH = -1, BAD_VALUE = -2, NOT_POSSIBLE = -5, NONE = -6;
    private static final int LEAST = Integer.MIN_VALUE, GREATEST = Integer.MAX_VALUE;
    private static final int[] NO_RINGS = {-1, 2, 13, 14, 32, 33, LEAST, GREATEST};
    private static final int[] NO_GAUGES = {-1, 1, 5, 6, LEAST, GREATEST};

    public static void main(String[] args) {
        ofRingStacked();
        ofRingPlace();
        ofRingNoSuch();
        ofRingNoSuchWhat();
        ofGaugeErrorAnd100();
        ofGaugeWithoutCertificate();
        ofGaugeNoSuch();
        ofGaugeNoSuchWhat();
        readingUpToTheLast();
        readingNoSuchGauge();
        readingNoCertificate();
        readingNoSuchPlace();
        countOfNothing();
        countOfTheMost();
        countNoSuchWhat();
        pressureOfOthers();
        pressureOfNoneAndAll();
        pressureBelow0();
        nearestBelowAndAbove();
        nearestFewest();
        nearestLeastNumber();
        nearest0AndMore();
        nearestOutOfRange();
        testPasses();
        testFirstPlace();
        testHowMany();
        testAsItWouldBeNow();
        testNoSuch();
        testNoSuchWhat();
        testWithoutRings();
        bestErrorFromMinus99To99();
        bestErrorOfSeveral();
        bestErrorNoSuch();
        bestErrorNoSuchWhat();
        bestErrorWithoutRings();
        airCostsLessThatOfNow();
        airCostsOutOfRange();
        Due.end("QuestionsBoundaryTest");
    }

    private static GaugeColumns withGauge(int error, int play, int step, int... grams) {
        GaugeColumns x = Testers.withRings(grams);
        x.gauge(error, play, step);
        return x;
    }

    private static void ofRingStacked() {
        Due.sentence("Promise 10: 1 whether it is stacked (1 or 0)");
        GaugeColumns x = Testers.heaviest();
        Due.is("the last of 14", x.ofRing(13, 1), 1);
        x.take(13);
        Due.is("taken", x.ofRing(13, 1), 0);
        Due.is("another one", x.ofRing(12, 1), 1);
    }

    private static void ofRingPlace() {
        Due.sentence("Promise 10: 2 its place in a test (0 for the lightest one)");
        GaugeColumns x = Testers.withRings(14, 13, 12, 11, 10, 9, 8, 7, 6, 5, 4, 3, 2, 1);
        GaugeColumns like = Testers.heaviest();
        for (int ring = 0; ring < 14; ring++) {
            Due.is("the lighter the later, " + ring, x.ofRing(ring, 2), 13 - ring);
            Due.is("all alike, " + ring, like.ofRing(ring, 2), ring);
        }
        Due.is("one alone", Testers.withRings(9999).ofRing(0, 2), 0);
    }

    private static void ofRingNoSuch() {
        Due.sentence("Promise 10: NO_SUCH if there is no such ring");
        Due.is("ofRing(0, 0) without rings", new GaugeColumns().ofRing(0, 0), NO_SUCH);
        GaugeColumns x = Testers.withRings(1, 2);
        for (int ring : NO_RINGS) {
            Due.is("ofRing(" + ring + ", 0)", x.ofRing(ring, 0), NO_SUCH);
        }
        x.lose();
        Due.is("a ring that is lost", x.ofRing(1, 0), NO_SUCH);
        Due.is("the last of 14", Testers.heaviest().ofRing(13, 0), 9999);
        Due.is("behind the last of 14", Testers.heaviest().ofRing(14, 0), NO_SUCH);
    }

    private static void ofRingNoSuchWhat() {
        Due.sentence("Promise 10: BAD_VALUE if what is out of range");
        GaugeColumns x = Testers.withRings(1);
        for (int what : new int[] {-1, 3, LEAST, GREATEST}) {
            Due.is("ofRing(0, " + what + ")", x.ofRing(0, what), BAD_VALUE);
        }
    }

    private static void ofGaugeErrorAnd100() {
        Due.sentence("Promise 11: 0 its error and 100");
        Due.is("-99", withGauge(-99, 0, 1).ofGauge(0, 0), 1);
        Due.is("0", withGauge(0, 0, 1).ofGauge(0, 0), 100);
        Due.is("99", withGauge(99, 0, 1).ofGauge(0, 0), 199);
    }

    private static void ofGaugeWithoutCertificate() {
        Due.sentence("Promise 11: 6, 7: NONE without one");
        GaugeColumns x = withGauge(0, 0, 1, 400);
        int[][] due = {{0, NONE, NONE}, {1, 0, 0}, {0, NONE, NONE}};
        for (int i = 0; i < due.length; i++) {
            for (int what = 0; what < 3; what++) {
                Due.is("ofGauge(0, " + (5 + what) + "), " + i, x.ofGauge(0, 5 + what), due[i][what]);
            }
            if (i == 0) {
                // So that neither the greatest wrong of 0 nor the AIR of 0 is taken for none
                x.set(0, 0);
                x.certify(0);
            } else {
                x.tune(0, 0);
            }
        }
    }

    private static void ofGaugeNoSuch() {
        Due.sentence("Promise 11: NO_SUCH if there is no such gauge");
        Due.is("ofGauge(0, 0) without gauges", new GaugeColumns().ofGauge(0, 0), NO_SUCH);
        GaugeColumns x = withGauge(0, 0, 1);
        for (int gauge : NO_GAUGES) {
            Due.is("ofGauge(" + gauge + ", 0)", x.ofGauge(gauge, 0), NO_SUCH);
        }
        GaugeColumns six = Testers.certified();
        Due.is("the last of 6", six.ofGauge(5, 1), 5);
        Due.is("behind the last of 6", six.ofGauge(6, 1), NO_SUCH);
    }

    private static void ofGaugeNoSuchWhat() {
        Due.sentence("Promise 11: BAD_VALUE if what is out of range");
        GaugeColumns x = withGauge(0, 0, 1);
        for (int what : new int[] {-1, 8, LEAST, GREATEST}) {
            Due.is("ofGauge(0, " + what + ")", x.ofGauge(0, what), BAD_VALUE);
        }
    }

    private static void readingUpToTheLast() {
        Due.sentence("Promise 12: 0 for that behind the first ring, up to the last one of the way back");
        GaugeColumns one = withGauge(0, 0, 1, 7);
        one.certify(0);
        Due.is("one ring, behind it", one.reading(0, 0), 1070);
        Due.is("one ring, the way back", one.reading(0, 1), 1000);
        GaugeColumns all = Testers.heaviest();
        all.set(0, 0);
        all.set(1, 1);
        all.gauge(0, 0, 1);
        all.certify(0);
        Due.is("14 rings, behind the first", all.reading(0, 0), 1008900);
        Due.is("14 rings, all", all.reading(0, 13), 13994600);
        Due.is("14 rings, the last", all.reading(0, 27), 10000);
    }

    private static void readingNoSuchGauge() {
        Due.sentence("Promise 12: NO_SUCH if there is no such gauge");
        GaugeColumns x = withGauge(0, 0, 1, 7);
        x.certify(0);
        for (int gauge : NO_GAUGES) {
            Due.is("reading(" + gauge + ", 0)", x.reading(gauge, 0), NO_SUCH);
        }
        Due.is("the last of 6", Testers.certified().reading(5, 0), 1495);
        Due.is("behind the last of 6", Testers.certified().reading(6, 0), NO_SUCH);
    }

    private static void readingNoCertificate() {
        Due.sentence("Promise 12: NO_SUCH if there is no such certificate");
        GaugeColumns x = withGauge(99, 0, 1, 500);
        Due.is("not certified", x.reading(0, 0), NO_SUCH);
        x.certify(0);
        Due.is("not passed", x.reading(0, 0), NO_SUCH);
        x.tune(0, 0);
        x.certify(0);
        Due.is("certified", x.reading(0, 0), 5990);
        x.ring(1);
        Due.is("void", x.reading(0, 0), NO_SUCH);
    }

    private static void readingNoSuchPlace() {
        Due.sentence("Promise 12: NO_SUCH if there is no such place");
        GaugeColumns x = withGauge(0, 0, 1, 7, 8);
        x.certify(0);
        Due.is("the last one", x.reading(0, 3), 1000);
        for (int place : new int[] {-1, 4, 27, 28, LEAST, GREATEST}) {
            Due.is("reading(0, " + place + ")", x.reading(0, place), NO_SUCH);
        }
        GaugeColumns all = Testers.heaviest();
        all.gauge(0, 0, 1);
        all.certify(0);
        Due.is("behind the last of 28", all.reading(0, 28), NO_SUCH);
    }

    private static void countOfNothing() {
        Due.sentence("Promise 13: each number of a new object");
        int[] due = {0, 0, 0, 100, 100, 1000, 0, 4, 10, 50, 0, 0};
        for (int what = 0; what < due.length; what++) {
            Due.is("count(" + what + ")", new GaugeColumns().count(what), due[what]);
        }
    }

    private static void countOfTheMost() {
        Due.sentence("Promise 13: the greatest of each number");
        GaugeColumns x = Testers.heaviest();
        x.set(0, 0);
        x.set(1, 1);
        x.set(2, 999);
        for (int i = 0; i < 6; i++) {
            x.gauge(0, 0, 1);
            x.certify(i);
        }
        for (int i = 0; i < 10; i++) {
            Due.put(x, "m1;m2;m3");
        }
        int[] due = {14, 6, 16383, 140086, 139946, 13994600, 6, 0, 1, 999, 80, 6};
        for (int what = 0; what < due.length; what++) {
            Due.is("count(" + what + ")", x.count(what), due[what]);
        }
        x.set(0, 9);
        x.set(1, 99);
        Due.is("the greatest AIR", x.count(7), 9);
        Due.is("the greatest AREA", x.count(8), 99);
    }

    private static void countNoSuchWhat() {
        Due.sentence("Promise 13: BAD_VALUE if what is out of range");
        for (int what : new int[] {-1, 12, LEAST, GREATEST}) {
            Due.is("count(" + what + ")", new GaugeColumns().count(what), BAD_VALUE);
        }
    }

    private static void pressureOfOthers() {
        Due.sentence("Promise 14: others in it do not matter");
        GaugeColumns none = new GaugeColumns();
        GaugeColumns two = Testers.withRings(10, 20);
        GaugeColumns all = Testers.heaviest();
        for (int ring = 0; ring < 31; ring++) {
            int alone = ring == 0 ? 1100 : ring == 1 ? 1200 : 1000;
            Due.is("without rings, " + ring, none.pressure(1 << ring), 1000);
            Due.is("of two, " + ring, two.pressure(1 << ring), alone);
            Due.is("of 14, " + ring, all.pressure(1 << ring), ring < 14 ? 100870 : 1000);
        }
        two.lose();
        Due.is("a ring that is lost", two.pressure(3), 1100);
    }

    private static void pressureOfNoneAndAll() {
        Due.sentence("Promise 14: the pressure of no ring, and of all");
        GaugeColumns x = Testers.heaviest();
        Due.is("none, while all are stacked", x.pressure(0), 1000);
        Due.is("all", x.pressure(16383), 1399180);
        Due.is("all and others", x.pressure(GREATEST), 1399180);
        Due.is("the column stays", x.count(2), 16383);
        x.set(0, 0);
        x.set(1, 1);
        Due.is("the greatest", x.pressure(16383), 13994600);
    }

    private static void pressureBelow0() {
        Due.sentence("Promise 14: BAD_VALUE if rings is below 0");
        GaugeColumns x = Testers.withRings(1);
        for (int rings : new int[] {-1, -2, -16384, LEAST, LEAST + 1}) {
            Due.is("pressure(" + rings + ")", x.pressure(rings), BAD_VALUE);
        }
        Due.is("pressure(0)", x.pressure(0), 1000);
    }

    private static void nearestIs(GaugeColumns x, int wanted, int rings, int pressure) {
        Due.is("nearest(" + wanted + ", 0)", x.nearest(wanted, 0), rings);
        Due.is("nearest(" + wanted + ", 1)", x.nearest(wanted, 1), pressure);
    }

    private static void nearestBelowAndAbove() {
        Due.sentence("Promise 15: the column whose pressure is nearest to one");
        GaugeColumns x = Testers.withRings(10, 20, 30);
        nearestIs(x, 1099, 1, 1100);
        nearestIs(x, 1100, 1, 1100);
        nearestIs(x, 1149, 1, 1100);
        nearestIs(x, 1151, 2, 1200);
        nearestIs(x, 1449, 5, 1400);
        nearestIs(x, 1551, 7, 1600);
        x.stack(0);
        x.stack(1);
        nearestIs(x, 1000, 0, 1000);
    }

    private static void nearestFewest() {
        Due.sentence("Promise 15: of several the one with the fewest rings");
        GaugeColumns x = Testers.withRings(10, 10, 20);
        nearestIs(x, 1200, 4, 1200);
        nearestIs(x, 1050, 0, 1000);
        nearestIs(x, 1350, 5, 1300);
        GaugeColumns y = Testers.withRings(10, 20, 60);
        // 1300 by two rings is as far off as 1600 by one
        nearestIs(y, 1450, 4, 1600);
        GaugeColumns z = Testers.withRings(200, 199, 400);
        z.set(0, 0);
        // 499 and 500 grams weigh the same
        nearestIs(z, 4990, 4, 4990);
    }

    private static void nearestLeastNumber() {
        Due.sentence("Promise 15: of these the one that is the least as a number");
        GaugeColumns x = Testers.withRings(10, 10, 10);
        nearestIs(x, 1100, 1, 1100);
        nearestIs(x, 1200, 3, 1200);
        nearestIs(x, 1150, 1, 1100);
        GaugeColumns falling = Testers.withRings(30, 10);
        nearestIs(falling, 1200, 1, 1300);
        GaugeColumns like = Testers.withRings(400, 399);
        like.set(0, 0);
        nearestIs(like, 4990, 1, 4990);
        GaugeColumns all = Testers.heaviest();
        nearestIs(all, 100870, 1, 100870);
        nearestIs(all, 699900, 127, all.pressure(127));
    }

    private static void nearest0AndMore() {
        Due.sentence("Promise 15: pressure: 0 or more");
        nearestIs(new GaugeColumns(), 0, 0, 1000);
        nearestIs(new GaugeColumns(), GREATEST, 0, 1000);
        GaugeColumns x = Testers.heaviest();
        nearestIs(x, 0, 0, 1000);
        nearestIs(x, 1, 0, 1000);
        nearestIs(x, GREATEST, 16383, 1399180);
        x.set(0, 0);
        x.set(1, 1);
        nearestIs(x, GREATEST, 16383, 13994600);
        nearestIs(x, GREATEST - 1, 16383, 13994600);
        nearestIs(x, 13994600, 16383, 13994600);
    }

    private static void nearestOutOfRange() {
        Due.sentence("Promise 15: BAD_VALUE if an argument is out of range");
        GaugeColumns x = Testers.withRings(1);
        Due.is("nearest(-1, 0)", x.nearest(-1, 0), BAD_VALUE);
        Due.is("nearest(-1, 1)", x.nearest(-1, 1), BAD_VALUE);
        Due.is("nearest(least int, 0)", x.nearest(LEAST, 0), BAD_VALUE);
        for (int what : new int[] {-1, 2, LEAST, GREATEST}) {
            Due.is("nearest(1000, " + what + ")", x.nearest(1000, what), BAD_VALUE);
        }
    }

    private static void testPasses() {
        Due.sentence("Promise 16: 1 whether it passes (1 or 0)");
        GaugeColumns x = withGauge(10, 0, 1, 400);
        int[] allowed = {49, 48, 50, 0, 999};
        int[] due = {1, 0, 1, 0, 1};
        for (int i = 0; i < due.length; i++) {
            x.set(2, allowed[i]);
            Due.is("49 of " + allowed[i], x.test(0, 1), due[i]);
        }
        GaugeColumns y = withGauge(0, 0, 1, 1);
        y.set(2, 0);
        Due.is("0 of 0", y.test(0, 1), 1);
    }

    private static void testFirstPlace() {
        Due.sentence("Promise 16: 2 the place of the first reading with the greatest wrong");
        Due.is("never wrong", withGauge(0, 0, 1, 5, 6).test(0, 2), 0);
        Due.is("wrong all alike", withGauge(0, 9, 1, 5, 6).test(0, 2), 0);
        Due.is("with all stacked", withGauge(50, 0, 1, 500, 600, 700).test(0, 2), 2);
        // Pressures 1010 and 1000: a step of 20 is wrong by 10 at 1010, by 0 at 1000
        Due.is("the first of two", withGauge(0, 0, 20, 1).test(0, 2), 0);
        // Pressures 1010 and 1000: a step of 99 reads 990, so that it is 20 wrong, then 10
        Due.is("the first of two", withGauge(0, 0, 99, 1).test(0, 2), 0);
        // Pressures 1040 and 1000 both read 1040
        Due.is("the last of two", withGauge(0, 0, 80, 4).test(0, 2), 1);
        GaugeColumns back = withGauge(1, 99, 1, 1);
        // Up 1011 - 99, and down 1001 + 99 would be, but the hand stays at 912
        Due.is("up", back.test(0, 0), 98);
        Due.is("up", back.test(0, 2), 0);
        GaugeColumns down = withGauge(5, 9, 1, 500);
        // Up 5990 + 29 - 9, down 1000 + 5 + 9
        Due.is("up", down.test(0, 0), 20);
        down.tune(0, 1);
        // Up 5990 + 5 - 9, down 1000 + 1 + 9
        Due.is("down", down.test(0, 0), 10);
        Due.is("down", down.test(0, 2), 1);
        down.gauge(0, 0, 1);
        Due.is("never wrong, behind another test", down.test(1, 2), 0);
    }

    private static void testHowMany() {
        Due.sentence("Promise 16: 3 how many readings there are");
        GaugeColumns x = new GaugeColumns();
        x.gauge(0, 0, 1);
        for (int rings = 1; rings <= 14; rings++) {
            x.ring(rings);
            Due.is("of " + rings, x.test(0, 3), 2 * rings);
        }
    }

    private static void testAsItWouldBeNow() {
        Due.sentence("Promise 16: a test as it would be now");
        GaugeColumns x = withGauge(99, 0, 1, 9999);
        x.set(2, 0);
        x.certify(0);
        Due.is("AIR 4", x.test(0, 0), 9986);
        x.set(0, 0);
        Due.is("AIR 0", x.test(0, 0), 9988);
        x.set(1, 99);
        Due.is("AREA 99", x.test(0, 0), 1008);
        x.tune(0, 0);
        Due.is("tuned", x.test(0, 0), 0);
        x.ring(1);
        Due.is("with another ring", x.test(0, 3), 4);
        x.lose();
        Due.is("without it", x.test(0, 3), 2);
    }

    private static void testNoSuch() {
        Due.sentence("Promise 16: NO_SUCH if there is no such gauge");
        Due.is("test(0, 0) without gauges", Testers.withRings(1).test(0, 0), NO_SUCH);
        GaugeColumns x = withGauge(0, 0, 1, 1);
        for (int gauge : NO_GAUGES) {
            Due.is("test(" + gauge + ", 0)", x.test(gauge, 0), NO_SUCH);
        }
        Due.is("the last of 6", Testers.certified().test(5, 0), 5);
        Due.is("behind the last of 6", Testers.certified().test(6, 0), NO_SUCH);
    }

    private static void testNoSuchWhat() {
        Due.sentence("Promise 16: BAD_VALUE if what is out of range");
        for (int what : new int[] {-1, 4, LEAST, GREATEST}) {
            Due.is("test(0, " + what + ")", withGauge(0, 0, 1, 1).test(0, what), BAD_VALUE);
        }
    }

    private static void testWithoutRings() {
        Due.sentence("Promise 16: NOT_POSSIBLE if there are no rings");
        GaugeColumns x = withGauge(0, 0, 1);
        for (int what = 0; what < 4; what++) {
            Due.is("test(0, " + what + ")", x.test(0, what), NOT_POSSIBLE);
        }
        x.ring(1);
        Due.is("with one that is not stacked", x.test(0, 3), 2);
        x.lose();
        Due.is("behind the last", x.test(0, 3), NOT_POSSIBLE);
    }

    private static void bestErrorFromMinus99To99() {
        Due.sentence("Promise 17: the error, -99 to 99, by which the greatest wrong would be the least");
        GaugeColumns x = withGauge(5, 99, 1, 1);
        x.set(1, 99);
        // Pressures 102 and 101: 99 alone lifts T to 112, and the hand to 13, where it stays
        Due.is("99", x.bestError(0, 0), 199);
        Due.is("99", x.bestError(0, 1), 89);
        GaugeColumns y = withGauge(5, 0, 99, 50);
        y.set(1, 99);
        // Pressures 151 and 101: T at 149 and more reads 198, which is 47 wrong; -20 has T at 148, which reads 99
        Due.is("-19", y.bestError(0, 0), 81);
        Due.is("-19", y.bestError(0, 1), 47);
        GaugeColumns w = withGauge(5, 0, 99, 1);
        w.set(1, 99);
        // Pressures 102 and 101 read 99 by every error
        Due.is("-99", w.bestError(0, 0), 1);
        Due.is("-99", w.bestError(0, 1), 3);
        GaugeColumns z = withGauge(-99, 0, 1, 9999);
        Due.is("0", z.bestError(0, 0), 100);
        Due.is("0", z.bestError(0, 1), 0);
        Due.is("its own error does not matter", z.ofGauge(0, 0), 1);
    }

    private static void bestErrorOfSeveral() {
        Due.sentence("Promise 17: of several the least one");
        GaugeColumns x = withGauge(0, 0, 1, 1);
        x.set(1, 99);
        // Of 102 and 101 no error from -9 to 9 takes a whole hundredth
        Due.is("of -9 to 9", x.bestError(0, 0), 91);
        Due.is("of -9 to 9", x.bestError(0, 1), 0);
        x.tune(0, 9);
        Due.is("its own does not matter", x.bestError(0, 0), 91);
        GaugeColumns y = withGauge(0, 0, 99, 1);
        y.set(1, 99);
        // All errors read 99
        Due.is("of all", y.bestError(0, 0), 1);
        Due.is("of all", y.bestError(0, 1), 3);
    }

    private static void bestErrorNoSuch() {
        Due.sentence("Promise 17: NO_SUCH if there is no such gauge");
        Due.is("bestError(0, 0) without gauges", Testers.withRings(1).bestError(0, 0), NO_SUCH);
        GaugeColumns x = withGauge(0, 0, 1, 1);
        for (int gauge : NO_GAUGES) {
            Due.is("bestError(" + gauge + ", 0)", x.bestError(gauge, 0), NO_SUCH);
        }
        Due.is("the last of 6", Testers.certified().bestError(5, 1), 5);
        Due.is("behind the last of 6", Testers.certified().bestError(6, 1), NO_SUCH);
    }

    private static void bestErrorNoSuchWhat() {
        Due.sentence("Promise 17: BAD_VALUE if what is neither 0 nor 1");
        for (int what : new int[] {-1, 2, LEAST, GREATEST}) {
            Due.is("bestError(0, " + what + ")", withGauge(0, 0, 1, 1).bestError(0, what), BAD_VALUE);
        }
    }

    private static void bestErrorWithoutRings() {
        Due.sentence("Promise 17: NOT_POSSIBLE if there are no rings");
        GaugeColumns x = withGauge(0, 0, 1);
        Due.is("bestError(0, 0)", x.bestError(0, 0), NOT_POSSIBLE);
        Due.is("bestError(0, 1)", x.bestError(0, 1), NOT_POSSIBLE);
        x.ring(1);
        Due.is("with one that is not stacked", x.bestError(0, 1), 0);
        x.lose();
        Due.is("behind the last", x.bestError(0, 0), NOT_POSSIBLE);
    }

    private static void airCostsLessThatOfNow() {
        Due.sentence("Promise 18: that with it less that of now, and 10000");
        GaugeColumns x = Testers.heaviest();
        Due.is("from 4 to 4", x.airCosts(4), 10000);
        Due.is("from 4 to 0", x.airCosts(0), 10280);
        Due.is("from 4 to 9", x.airCosts(9), 9650);
        x.set(1, 1);
        x.set(0, 0);
        Due.is("the least", x.airCosts(9), 3700);
        x.set(0, 9);
        Due.is("the greatest", x.airCosts(0), 16300);
        Due.is("AIR stays", x.count(7), 9);
        x.set(1, 99);
        // Both pressures are rounded down: 141359 less 141295
        Due.is("AREA 99", x.airCosts(0), 10064);
        Due.is("of the carrier", new GaugeColumns().airCosts(0), 10000);
    }

    private static void airCostsOutOfRange() {
        Due.sentence("Promise 18: BAD_VALUE if air is out of range");
        GaugeColumns x = Testers.heaviest();
        for (int air : new int[] {-1, 10, LEAST, GREATEST}) {
            Due.is("airCosts(" + air + ")", x.airCosts(air), BAD_VALUE);
        }
    }
}
