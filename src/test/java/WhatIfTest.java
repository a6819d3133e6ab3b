/** Promises 14 to 18: what would be, while nothing changes. */
public final class WhatIfTest {
    private static final int NO_SUCH = -1, BAD_VALUE = -2, NOT_POSSIBLE = -5;

    public static void main(String[] args) {
        pressure();
        nearest();
        nearestOfMany();
        test();
        testAsItWouldBeNow();
        bestError();
        airCosts();
        nothingChanges();
        Due.end("WhatIfTest");
    }

    private static void pressure() {
        GaugeColumns x = Testers.withRings(500, 200, 500);
        x.stack(1);
        int[] due = {1000, 5990, 3000, 7990, 5990, 10990, 7990, 12980};
        for (int rings = 0; rings < 8; rings++) {
            Due.is("pressure(" + rings + ")", x.pressure(rings), due[rings]);
            Due.is("pressure: others do not matter", x.pressure(rings + 8 + (1 << 14) + (1 << 30)), due[rings]);
        }
        Due.is("pressure(greatest int)", x.pressure(Integer.MAX_VALUE), 12980);
        Due.is("pressure(-1)", x.pressure(-1), BAD_VALUE);
        Due.is("pressure(least int)", x.pressure(Integer.MIN_VALUE), BAD_VALUE);
        x.set(0, 9);
        x.set(1, 3);
        Due.is("pressure: AIR 9, AREA 3", x.pressure(7), 43266);
        Due.is("pressure without rings", new GaugeColumns().pressure(5), 1000);
        GaugeColumns lost = Testers.withRings(500, 200);
        lost.lose();
        Due.is("pressure: a lost ring does not matter", lost.pressure(3), 5990);
        GaugeColumns all = Testers.withRings(1, 1, 1, 1, 1, 1, 1, 1, 1, 1, 1, 1, 1, 1);
        Due.is("pressure of 14 rings", all.pressure(16383), 1140);
        Due.is("pressure of 14 rings, and others", all.pressure(Integer.MAX_VALUE), 1140);
    }

    private static void nearest() {
        GaugeColumns none = new GaugeColumns();
        Due.is("nearest without rings", none.nearest(0, 0), 0);
        Due.is("nearest without rings", none.nearest(Integer.MAX_VALUE, 1), 1000);
        Due.is("nearest(-1, 0)", none.nearest(-1, 0), BAD_VALUE);
        Due.is("nearest(least int, 0)", none.nearest(Integer.MIN_VALUE, 0), BAD_VALUE);
        Due.is("nearest(0, -1)", none.nearest(0, -1), BAD_VALUE);
        Due.is("nearest(0, 2)", none.nearest(0, 2), BAD_VALUE);

        GaugeColumns fewest = Testers.withRings(10, 10, 20);
        Due.is("nearest: of equal pressures the fewest rings", fewest.nearest(1200, 0), 4);
        Due.is("nearest: of as many rings the least number", fewest.nearest(1100, 0), 1);
        Due.is("nearest: two as far off, the fewest rings", fewest.nearest(1050, 0), 0);
        Due.is("nearest: two as far off, the fewest rings", fewest.nearest(1150, 0), 1);
        Due.is("nearest: its pressure", fewest.nearest(1150, 1), 1100);
        Due.is("nearest: one more", fewest.nearest(1151, 0), 4);
        Due.is("nearest: one more", fewest.nearest(1151, 1), 1200);
        Due.is("nearest: all", fewest.nearest(9999, 0), 7);

        GaugeColumns higher = Testers.withRings(10, 20, 60);
        Due.is("nearest: fewer rings with a greater number", higher.nearest(1450, 0), 4);
        Due.is("nearest: fewer rings with a greater number", higher.nearest(1450, 1), 1600);
        GaugeColumns falling = Testers.withRings(30, 10);
        Due.is("nearest: the least number with a greater pressure", falling.nearest(1200, 0), 1);
        Due.is("nearest: the least number with a greater pressure", falling.nearest(1200, 1), 1300);
        falling.set(1, 99);
        falling.set(0, 9);
        Due.is("nearest: AREA 99", falling.nearest(126, 0), 1);
        Due.is("nearest: AREA 99", falling.nearest(126, 1), 131);
    }

    private static void nearestOfMany() {
        GaugeColumns x = new GaugeColumns();
        for (int i = 0; i < 14; i++) {
            x.ring(i < 13 ? 1 << i : 1);
        }
        x.set(0, 0);
        x.set(1, 1);
        // 5000 grams: 5 of them float
        Due.is("nearest: of 14 rings", x.nearest(499500, 0), 4900);
        Due.is("nearest: of 14 rings", x.nearest(499500, 1), 499500);
        Due.is("nearest: all 14 rings", x.nearest(Integer.MAX_VALUE, 0), 16383);
        Due.is("nearest: all 14 rings", x.nearest(Integer.MAX_VALUE, 1), x.pressure(16383));
        Due.is("nearest: the least of like ones", x.nearest(10100, 0), 1);
    }

    private static void test() {
        GaugeColumns x = new GaugeColumns();
        Due.is("test(0, 4) without gauges", x.test(0, 4), NO_SUCH);
        x.gauge(10, 0, 1);
        Due.is("test(0, 4) without rings", x.test(0, 4), BAD_VALUE);
        Due.is("test(0, -1) without rings", x.test(0, -1), BAD_VALUE);
        Due.is("test(0, 0) without rings", x.test(0, 0), NOT_POSSIBLE);
        Due.is("test(1, 0)", x.test(1, 0), NO_SUCH);
        Due.is("test(-1, 0)", x.test(-1, 0), NO_SUCH);
        x.ring(400);
        Due.is("test: the greatest wrong", x.test(0, 0), 49);
        Due.is("test: passes", x.test(0, 1), 1);
        x.set(2, 49);
        Due.is("test: passes at ALLOWED", x.test(0, 1), 1);
        x.set(2, 48);
        Due.is("test: one more than ALLOWED", x.test(0, 1), 0);
        Due.is("test: the first with the greatest", x.test(0, 2), 0);
        Due.is("test: how many readings", x.test(0, 3), 2);
        x.ring(1);
        // The lighter one is first now: pressures 1010, 5000, 1010, 1000
        Due.is("test: the greatest wrong", x.test(0, 0), 50);
        Due.is("test: its place", x.test(0, 2), 1);
        Due.is("test: how many readings", x.test(0, 3), 4);
        x.gauge(0, 7, 1);
        Due.is("test: play", x.test(1, 0), 7);
        Due.is("test: the first of like ones", x.test(1, 2), 0);
        x.gauge(0, 0, 1);
        Due.is("test: never wrong", x.test(2, 0), 0);
        Due.is("test: never wrong, its place", x.test(2, 2), 0);
        x.gauge(0, 0, 9);
        // 1010 reads 1008, 5000 reads 5004, 1000 reads 999
        Due.is("test: a step", x.test(3, 0), 4);
        Due.is("test: a step", x.test(3, 2), 1);
        Due.is("test: never wrong, behind another test", x.test(2, 2), 0);
    }

    private static void testAsItWouldBeNow() {
        GaugeColumns x = Testers.withRings(9999);
        x.gauge(99, 0, 1);
        x.stack(0);
        Due.is("now: 100870 * 99 / 1000", x.test(0, 0), 9986);
        x.set(0, 0);
        Due.is("now: AIR 0, 100890 * 99 / 1000", x.test(0, 0), 9988);
        x.set(1, 99);
        Due.is("now: AREA 99, 10190 * 99 / 1000", x.test(0, 0), 1008);
        x.tune(0, -99);
        Due.is("now: tuned", x.test(0, 0), 1008);
        Due.is("now: at first its hand is at 0", x.test(0, 2), 0);
    }

    private static void bestError() {
        GaugeColumns x = new GaugeColumns();
        Due.is("bestError(0, 2) without gauges", x.bestError(0, 2), NO_SUCH);
        x.gauge(99, 0, 1);
        Due.is("bestError(0, 2) without rings", x.bestError(0, 2), BAD_VALUE);
        Due.is("bestError(0, -1) without rings", x.bestError(0, -1), BAD_VALUE);
        Due.is("bestError(0, 0) without rings", x.bestError(0, 0), NOT_POSSIBLE);
        Due.is("bestError(1, 0)", x.bestError(1, 0), NO_SUCH);
        Due.is("bestError(-1, 0)", x.bestError(-1, 0), NO_SUCH);
        x.ring(400);
        Due.is("bestError: without play and step", x.bestError(0, 0), 100);
        Due.is("bestError: without play and step", x.bestError(0, 1), 0);
        Due.is("bestError: its error stays", x.ofGauge(0, 0), 199);
        x.gauge(0, 40, 1);
        // Pressures 4990, 1000: hand P - 40 and size up, P + 40 and size down: 5 too much is 15 off, and 45
        Due.is("bestError: play", x.bestError(1, 0), 100);
        Due.is("bestError: play", x.bestError(1, 1), 40);
        // Within an area of 99 a pressure of 504 is off by 0 with an error of -1 or 1: the least one is told
        x.set(1, 99);
        Due.is("bestError: of several the least", x.bestError(0, 0), 99);
        Due.is("bestError: of several the least", x.bestError(0, 1), 0);

        GaugeColumns y = Testers.withRings(1);
        y.set(1, 1);
        y.gauge(0, 99, 99);
        int best = 0;
        int least = Integer.MAX_VALUE;
        for (int error = -99; error <= 99; error++) {
            y.tune(0, error);
            int greatest = y.test(0, 0);
            if (greatest < least) {
                least = greatest;
                best = error;
            }
        }
        Due.is("bestError: as tests tell", y.bestError(0, 0), best + 100);
        Due.is("bestError: as tests tell", y.bestError(0, 1), least);

        GaugeColumns z = Testers.withRings(1);
        z.set(1, 99);
        z.gauge(0, 99, 1);
        z.gauge(0, 0, 99);
        // Pressures 102, 101: 99 alone lifts T to 112, and the hand to 13, where it stays
        Due.is("bestError: the greatest error", z.bestError(0, 0), 199);
        Due.is("bestError: the greatest error", z.bestError(0, 1), 89);
        // Every error reads 99
        Due.is("bestError: the least error", z.bestError(1, 0), 1);
        Due.is("bestError: the least error", z.bestError(1, 1), 3);
    }

    private static void airCosts() {
        GaugeColumns x = new GaugeColumns();
        for (int air = 0; air < 10; air++) {
            Due.is("airCosts(" + air + ")", x.airCosts(air), 10000);
        }
        for (int i = 0; i < 14; i++) {
            x.ring(9999);
            x.stack(i);
        }
        // Of 140086 grams 140, 168 and 203 float in the airs 0, 4 and 9
        Due.is("airCosts(0)", x.airCosts(0), 10280);
        Due.is("airCosts(4)", x.airCosts(4), 10000);
        Due.is("airCosts(9)", x.airCosts(9), 9650);
        x.set(0, 9);
        Due.is("airCosts: from 9 to 0", x.airCosts(0), 10630);
        Due.is("airCosts: from 9 to 9", x.airCosts(9), 10000);
        x.set(0, 0);
        x.set(1, 1);
        Due.is("airCosts: the least answer", x.airCosts(9), 3700);
        x.set(1, 99);
        // 13994600 / 99 is 141359, 13988300 / 99 is 141295, rounded down both
        Due.is("airCosts: each pressure rounded", x.airCosts(9), 9936);
        Due.is("airCosts(-1)", x.airCosts(-1), BAD_VALUE);
        Due.is("airCosts(10)", x.airCosts(10), BAD_VALUE);
        Due.is("airCosts(least int)", x.airCosts(Integer.MIN_VALUE), BAD_VALUE);
    }

    private static void nothingChanges() {
        GaugeColumns x = Testers.withRings(500, 20);
        x.gauge(10, 30, 7);
        x.stack(1);
        x.set(2, 999);
        x.certify(0);
        int[] before = Testers.state(x);
        int[] padAndHistory = Testers.padAndHistory(x);
        x.pressure(3);
        x.nearest(5000, 0);
        x.test(0, 0);
        x.bestError(0, 0);
        x.airCosts(9);
        x.pressure(-1);
        x.nearest(-1, 0);
        x.test(9, 0);
        x.bestError(9, 0);
        x.airCosts(99);
        Due.same("nothing changes: what there is", Testers.state(x), before);
        Due.same("nothing changes: the pad and the history", Testers.padAndHistory(x), padAndHistory);
    }
}
