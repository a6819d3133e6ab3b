/**
 * "Terms" but for the pad: a test for each sentence that names a boundary case, in the order of the document.
 * Each says its sentence first, so that a failure tells what is broken.
 */
public final class TermsBoundaryTest {
    private static final int NO_SUCH = -1, BAD_VALUE = -2, TOO_MANY = -4, NOT_POSSIBLE = -5, NONE = -6;

    public static void main(String[] args) {
        upTo512Calls();
        noneIfNoErrorApplies();
        numberedFrom0();
        roundedDown();
        aHalfUp();
        setsAreMasks();
        air();
        area();
        allowed();
        table();
        upTo14Rings();
        gramsOfRings();
        carrierIsAlwaysThere();
        massIsTheSum();
        weightLessTheAir();
        pressureOfWeight();
        upTo6Gauges();
        rangesOfGauges();
        handAt0AtFirst();
        sizeOfTheErrorRoundedDown();
        handBelow();
        handAbove();
        handStays();
        readsAMultiple();
        handsGoWithTheColumn();
        handsGoWithAirAndArea();
        testStartsAt0();
        fromTheLightest();
        takenAwayAgain();
        wrongWithoutASign();
        passesUpToAllowed();
        testChangesNothing();
        certificateAsItWas();
        atMostOneCertificate();
        voidByRings();
        voidByArea();
        voidByTuning();
        notVoid();
        Due.end("TermsBoundaryTest");
    }

    private static void upTo512Calls() {
        Due.sentence("An object is used for at most 512 calls");
        GaugeColumns x = Testers.withRings(400);
        x.gauge(10, 0, 1);
        for (int call = 3; call <= 511; call++) {
            Due.is("call " + call, x.certify(0), 49);
        }
        Due.is("the last call", x.undo(), 5);

        GaugeColumns y = new GaugeColumns();
        for (int call = 1; call <= 505; call++) {
            Due.is("call " + call, y.set(2, call), call == 1 ? 50 : call - 1);
        }
        for (int left = 5; left >= 0; left--) {
            Due.is("one of the last calls", y.undo(), left);
        }
        Due.is("the last call", y.count(9), 499);
    }

    private static void noneIfNoErrorApplies() {
        Due.sentence("NONE is returned only if no error applies");
        GaugeColumns x = new GaugeColumns();
        Due.is("fault() of an empty pad", x.fault(), 0);
        Due.is("ofGauge(0, 6) without gauges", x.ofGauge(0, 6), NO_SUCH);
        x.gauge(0, 0, 1);
        Due.is("ofGauge(0, 6)", x.ofGauge(0, 6), NONE);
        Due.is("ofGauge(0, 7)", x.ofGauge(0, 7), NONE);
        Due.is("ofGauge(0, 8)", x.ofGauge(0, 8), BAD_VALUE);
        Due.is("ofGauge(1, 7)", x.ofGauge(1, 7), NO_SUCH);
        Due.is("reading(0, 0)", x.reading(0, 0), NO_SUCH);
    }

    private static void numberedFrom0() {
        Due.sentence("Everything is numbered from 0");
        GaugeColumns x = new GaugeColumns();
        Due.is("the first ring", x.ring(1), 0);
        Due.is("the first gauge", x.gauge(0, 0, 1), 0);
        Due.is("the first reading", x.certify(0) + x.reading(0, 0), 1010);
        Due.is("the first slot", x.save(0), 1);
        Due.is("the first place", x.ofRing(0, 2), 0);
        Due.put(x, "x");
        Due.is("the first character", x.fault(), 0);
    }

    private static void roundedDown() {
        Due.sentence("Divisions are rounded down");
        GaugeColumns x = Testers.withRings(1);
        x.set(1, 3);
        Due.is("10000 / 3", x.count(5), 3333);
        Due.is("10100 / 3, which is nearer to 3367", x.stack(0), 3366);
        x.set(1, 99);
        Due.is("10100 / 99", x.count(5), 102);
    }

    private static void aHalfUp() {
        Due.sentence("Rounded: to the nearest whole number, a half up");
        GaugeColumns x = Testers.withRings(399, 1, 1);
        x.set(0, 0);
        Due.is("0.499 float", x.stack(0), 4990);
        Due.is("0.5 float", x.stack(1), 4990);
        Due.is("0.501 float", x.stack(2), 5000);
        x.gauge(0, 15, 10);
        x.gauge(0, 16, 10);
        x.gauge(0, 15, 30);
        Due.is("498.5 steps", x.ofGauge(0, 4), 4990);
        Due.is("498.4 steps", x.ofGauge(1, 4), 4980);
        Due.is("166.17 steps", x.ofGauge(2, 4), 4980);
    }

    private static void setsAreMasks() {
        Due.sentence("Sets of rings are bit masks");
        GaugeColumns x = Testers.heaviest();
        Due.is("all 14", x.count(2), 16383);
        for (int i = 0; i < 13; i++) {
            x.take(i);
        }
        Due.is("the last one", x.count(2), 8192);
        x.take(13);
        Due.is("none", x.count(2), 0);
    }

    private static void settingHas(int setting, int least, int most, int first) {
        GaugeColumns x = new GaugeColumns();
        Due.is("at first", x.count(7 + setting), first);
        Due.is("the least", x.set(setting, least), first);
        Due.is("one less", x.set(setting, least - 1), BAD_VALUE);
        Due.is("the least stays", x.count(7 + setting), least);
        Due.is("the most", x.set(setting, most), least);
        Due.is("one more", x.set(setting, most + 1), BAD_VALUE);
        Due.is("the most stays", x.count(7 + setting), most);
    }

    private static void air() {
        Due.sentence("AIR (0 to 9; 4)");
        settingHas(0, 0, 9, 4);
    }

    private static void area() {
        Due.sentence("AREA (1 to 99; 10)");
        settingHas(1, 1, 99, 10);
    }

    private static void allowed() {
        Due.sentence("ALLOWED (0 to 999; 50)");
        settingHas(2, 0, 999, 50);
    }

    private static void table() {
        Due.sentence("The air of the row k buoys up (100 + 5 * k) in 100000");
        GaugeColumns x = Testers.withRings(9900);
        x.stack(0);
        // Of 10000 grams 10, 10.5, 11 .. 14.5 float
        int[] weights = {9990, 9989, 9989, 9988, 9988, 9987, 9987, 9986, 9986, 9985};
        for (int row = 0; row < 10; row++) {
            x.set(0, row);
            Due.is("the row " + row, x.count(4), weights[row]);
        }
    }

    private static void upTo14Rings() {
        Due.sentence("There are up to 14 rings, numbered in the order in which they came");
        GaugeColumns x = new GaugeColumns();
        for (int i = 0; i < 14; i++) {
            Due.is("its number", x.ring(20 - i), i);
        }
        Due.is("one more", x.ring(1), TOO_MANY);
        Due.is("how many", x.count(0), 14);
        Due.is("the first one", x.ofRing(0, 0), 20);
        Due.is("the last one", x.ofRing(13, 0), 7);
    }

    private static void gramsOfRings() {
        Due.sentence("Rings are of 1 to 9999 grams");
        GaugeColumns x = new GaugeColumns();
        Due.is("ring(0)", x.ring(0), BAD_VALUE);
        Due.is("ring(1)", x.ring(1), 0);
        Due.is("ring(10000)", x.ring(10000), BAD_VALUE);
        Due.is("ring(9999)", x.ring(9999), 1);
        Due.is("its grams", x.ofRing(0, 0), 1);
        Due.is("its grams", x.ofRing(1, 0), 9999);
    }

    private static void carrierIsAlwaysThere() {
        Due.sentence("The carrier of 100 grams is always there");
        GaugeColumns x = new GaugeColumns();
        Due.is("without rings", x.count(3), 100);
        x.ring(7);
        Due.is("without a stacked ring", x.count(3), 100);
        x.stack(0);
        x.take(0);
        Due.is("behind the last ring was taken", x.count(3), 100);
        x.stack(0);
        x.lose();
        Due.is("behind the last ring was lost", x.count(3), 100);
    }

    private static void massIsTheSum() {
        Due.sentence("Its mass is the sum of all");
        GaugeColumns x = Testers.heaviest();
        Due.is("the greatest", x.count(3), 140086);
        x.take(13);
        Due.is("without the last ring", x.count(3), 130087);
        x.take(0);
        Due.is("without the first ring", x.count(3), 120088);
    }

    private static void weightLessTheAir() {
        Due.sentence("Its weight is its mass less what the air takes, rounded");
        GaugeColumns x = Testers.heaviest();
        // Of 140086 grams 140.086, 168.1032 and 203.1247 float
        Due.is("AIR 4", x.count(4), 139918);
        x.set(0, 0);
        Due.is("AIR 0", x.count(4), 139946);
        x.set(0, 9);
        Due.is("AIR 9", x.count(4), 139883);
        GaugeColumns y = Testers.withRings(316, 1);
        y.stack(0);
        Due.is("0.4992 float", y.count(4), 416);
        y.stack(1);
        Due.is("0.5004 float", y.count(4), 416);
        y.lose();
        y.lose();
        Due.is("of the carrier nothing floats", y.count(4), 100);
        GaugeColumns z = Testers.heaviest();
        z.set(0, 9);
        z.lose();
        z.ring(9567);
        z.stack(13);
        Due.is("202.4983 float", z.count(4), 139452);
    }

    private static void pressureOfWeight() {
        Due.sentence("Its pressure is the weight * 100 / AREA");
        GaugeColumns x = Testers.heaviest();
        x.set(0, 0);
        x.set(1, 1);
        Due.is("the greatest", x.count(5), 13994600);
        x.set(1, 99);
        Due.is("AREA 99", x.count(5), 141359);
        for (int i = 0; i < 14; i++) {
            x.take(i);
        }
        Due.is("the least", x.count(5), 101);
    }

    private static void upTo6Gauges() {
        Due.sentence("There are up to 6 gauges, numbered in the order in which they came");
        GaugeColumns x = new GaugeColumns();
        for (int i = 0; i < 6; i++) {
            Due.is("its number", x.gauge(0, 10 + i, 1), i);
        }
        Due.is("one more", x.gauge(0, 0, 1), TOO_MANY);
        Due.is("how many", x.count(1), 6);
        Due.is("the first one", x.ofGauge(0, 1), 10);
        Due.is("the last one", x.ofGauge(5, 1), 15);
    }

    private static void rangesOfGauges() {
        Due.sentence("A gauge has an error (-99 to 99), play (0 to 99) and a step (1 to 99)");
        GaugeColumns x = new GaugeColumns();
        int[][] outside = {{-100, 0, 1}, {100, 0, 1}, {0, -1, 1}, {0, 100, 1}, {0, 0, 0}, {0, 0, 100}};
        for (int[] it : outside) {
            Due.is("gauge(" + it[0] + ", " + it[1] + ", " + it[2] + ")", x.gauge(it[0], it[1], it[2]), BAD_VALUE);
        }
        Due.is("the least of each", x.gauge(-99, 0, 1), 0);
        Due.is("the most of each", x.gauge(99, 99, 99), 1);
        int[] least = {1, 0, 1};
        int[] most = {199, 99, 99};
        for (int what = 0; what < 3; what++) {
            Due.is("ofGauge(0, " + what + ")", x.ofGauge(0, what), least[what]);
            Due.is("ofGauge(1, " + what + ")", x.ofGauge(1, what), most[what]);
        }
    }

    private static void handAt0AtFirst() {
        Due.sentence("It has a hand, which is at 0 at first");
        GaugeColumns x = new GaugeColumns();
        x.set(1, 99);
        // The pressure 101 has T at 101 - 9
        for (int play = 91; play <= 94; play++) {
            x.gauge(-99, play, 1);
        }
        Due.is("one less play", x.ofGauge(0, 3), 1);
        Due.is("T less the play is 0", x.ofGauge(1, 3), 0);
        Due.is("T less the play is below 0", x.ofGauge(2, 3), 0);
        Due.is("T less the play is below 0", x.ofGauge(3, 3), 0);
    }

    private static void sizeOfTheErrorRoundedDown() {
        Due.sentence("The size of P * error / 1000 is rounded down, with its sign");
        GaugeColumns x = Testers.withRings(99);
        x.stack(0);
        x.gauge(1, 0, 1);
        x.gauge(-1, 0, 1);
        Due.is("1990 * 1 / 1000", x.ofGauge(0, 3), 1991);
        Due.is("1990 * -1 / 1000", x.ofGauge(1, 3), 1989);
        x.set(1, 99);
        x.gauge(9, 0, 1);
        x.gauge(-9, 0, 1);
        Due.is("201 * 9 / 1000", x.ofGauge(2, 3), 202);
        Due.is("201 * -9 / 1000", x.ofGauge(3, 3), 200);
        Due.is("201 * 1 / 1000", x.ofGauge(0, 3), 201);
        Due.is("201 * -1 / 1000", x.ofGauge(1, 3), 201);

        GaugeColumns y = Testers.heaviest();
        y.set(0, 0);
        y.set(1, 1);
        y.gauge(99, 0, 1);
        y.gauge(-99, 0, 1);
        Due.is("13994600 * 99 / 1000", y.ofGauge(0, 3), 15380065);
        Due.is("13994600 * -99 / 1000", y.ofGauge(1, 3), 12609135);
    }

    /** A gauge with this play, which came at the pressure 1000 and saw 1010: its hand is at 1010 less the play. */
    private static GaugeColumns risen(int play) {
        GaugeColumns x = Testers.withRings(1, 2, 3);
        x.gauge(0, play, 1);
        x.stack(0);
        Due.is("risen", x.ofGauge(0, 3), 1010 - play);
        return x;
    }

    private static void handBelow() {
        Due.sentence("If the hand is below T less the play, it goes to T less the play");
        GaugeColumns x = risen(7);
        x.stack(1);
        Due.is("to T less the play", x.ofGauge(0, 3), 1023);
        x.set(0, 5);
        Due.is("at T less the play", x.ofGauge(0, 3), 1023);
        Due.is("one below", x.tune(0, 1), 100);
        Due.is("one below", x.ofGauge(0, 3), 1024);
    }

    private static void handAbove() {
        Due.sentence("If it is above T and the play together, it goes to that");
        GaugeColumns x = risen(4);
        x.take(0);
        Due.is("two above", x.ofGauge(0, 3), 1004);
        x = risen(5);
        x.take(0);
        Due.is("at T and the play", x.ofGauge(0, 3), 1005);
        x.tune(0, -1);
        Due.is("one above", x.ofGauge(0, 3), 1004);
    }

    private static void handStays() {
        Due.sentence("Otherwise the hand stays");
        GaugeColumns x = risen(6);
        x.take(0);
        Due.is("one below T and the play", x.ofGauge(0, 3), 1004);
        x.tune(0, 9);
        Due.is("one above T less the play", x.ofGauge(0, 3), 1004);
        x.tune(0, 10);
        Due.is("at T less the play", x.ofGauge(0, 3), 1004);
        x.tune(0, -1);
        x.tune(0, -2);
        Due.is("at T and the play", x.ofGauge(0, 3), 1004);
        GaugeColumns y = risen(0);
        y.take(0);
        Due.is("never without play", y.ofGauge(0, 3), 1000);
    }

    private static void readsAMultiple() {
        Due.sentence("The gauge reads the hand divided by the step, rounded, times the step");
        GaugeColumns x = new GaugeColumns();
        x.set(1, 99);
        // T is 92
        x.gauge(-99, 43, 99);
        x.gauge(-99, 42, 99);
        x.gauge(-99, 43, 98);
        x.gauge(-99, 44, 98);
        x.gauge(-99, 92, 99);
        x.gauge(-99, 91, 1);
        int[] hands = {49, 50, 49, 48, 0, 1};
        int[] due = {0, 99, 98, 0, 0, 1};
        for (int i = 0; i < due.length; i++) {
            Due.is("the hand " + i, x.ofGauge(i, 3), hands[i]);
            Due.is("reads " + i, x.ofGauge(i, 4), due[i]);
        }
        GaugeColumns y = Testers.heaviest();
        y.set(0, 0);
        y.set(1, 1);
        y.gauge(99, 0, 98);
        // 15380065 is 156939 steps of 98, and 43
        Due.is("reads the greatest", y.ofGauge(0, 4), 15380022);
    }

    private static void allSixAt(GaugeColumns x, String why, int pressure) {
        for (int gauge = 0; gauge < 6; gauge++) {
            Due.is(why + ", gauge " + gauge, x.ofGauge(gauge, 3), pressure);
        }
    }

    private static GaugeColumns sixWithoutPlay() {
        GaugeColumns x = Testers.withRings(9900, 9900);
        for (int i = 0; i < 6; i++) {
            x.gauge(0, 0, 1);
        }
        return x;
    }

    private static void handsGoWithTheColumn() {
        Due.sentence("All hands go whenever the column changes");
        GaugeColumns x = sixWithoutPlay();
        allSixAt(x, "at first", 1000);
        x.stack(0);
        allSixAt(x, "stack(0)", 99880);
        x.stack(1);
        allSixAt(x, "stack(1)", 198760);
        x.take(0);
        allSixAt(x, "take(0)", 99880);
        x.lose();
        allSixAt(x, "lose() of a stacked ring", 1000);
        Due.put(x, "+0");
        x.carryOut();
        allSixAt(x, "the order +0", 99880);
        Due.put(x, "-0");
        x.carryOut();
        allSixAt(x, "the order -0", 1000);
        x.undo();
        allSixAt(x, "undo()", 99880);
        x.lose();
        allSixAt(x, "lose()", 1000);
        x.ring(1);
        allSixAt(x, "ring()", 1000);
    }

    private static void handsGoWithAirAndArea() {
        Due.sentence("All hands go whenever AIR or AREA changes");
        GaugeColumns x = sixWithoutPlay();
        x.stack(0);
        x.set(0, 0);
        allSixAt(x, "AIR 0", 99900);
        x.set(0, 9);
        allSixAt(x, "AIR 9", 99850);
        x.set(0, 10);
        allSixAt(x, "no such AIR", 99850);
        Due.put(x, "a4");
        x.carryOut();
        allSixAt(x, "the order a4", 99880);
        x.set(1, 99);
        allSixAt(x, "AREA 99", 10088);
        x.set(1, 1);
        allSixAt(x, "AREA 1", 998800);
        x.set(1, 0);
        allSixAt(x, "no such AREA", 998800);
        x.set(2, 0);
        allSixAt(x, "ALLOWED", 998800);
    }

    private static void testStartsAt0() {
        Due.sentence("At first its hand is at 0 and no ring is stacked");
        GaugeColumns x = Testers.withRings(1, 50);
        x.set(2, 999);
        x.gauge(0, 99, 1);
        x.stack(1);
        x.take(1);
        Due.is("the hand is high", x.ofGauge(0, 3), 1099);
        int[] due = {911, 1411, 1109, 1099};
        x.certify(0);
        for (int place = 0; place < due.length; place++) {
            Due.is("reading " + place, x.reading(0, place), due[place]);
        }
        x.stack(0);
        x.stack(1);
        x.certify(0);
        for (int place = 0; place < due.length; place++) {
            Due.is("with all stacked, reading " + place, x.reading(0, place), due[place]);
        }
        x.lose();
        x.set(1, 99);
        x.tune(0, -99);
        x.certify(0);
        // The pressures 102 and 101 have T at 92
        Due.is("it stays at 0", x.reading(0, 0), 0);
        Due.is("it stays at 0", x.reading(0, 1), 0);
    }

    private static void fromTheLightest() {
        Due.sentence("Stacked from the lightest to the heaviest, of like ones the lower number first");
        GaugeColumns x = Testers.withRings(50, 10, 50, 10, 9999, 1);
        int[] places = {3, 1, 4, 2, 5, 0};
        for (int ring = 0; ring < places.length; ring++) {
            Due.is("the place of " + ring, x.ofRing(ring, 2), places[ring]);
        }
        x.gauge(0, 0, 1);
        x.certify(0);
        // 10220 grams with all of them: 12.264 float
        int[] due = {1010, 1110, 1210, 1710, 2210, 102080};
        for (int place = 0; place < due.length; place++) {
            Due.is("reading " + place, x.reading(0, place), due[place]);
        }
    }

    private static void takenAwayAgain() {
        Due.sentence("Then the rings are taken away again, in the opposite order");
        GaugeColumns x = Testers.withRings(30, 10, 20);
        x.gauge(0, 0, 1);
        x.certify(0);
        int[] due = {1100, 1300, 1600, 1300, 1100, 1000, NO_SUCH};
        for (int place = 0; place < due.length; place++) {
            Due.is("reading " + place, x.reading(0, place), due[place]);
        }
        x = Testers.withRings(5);
        x.gauge(0, 0, 1);
        x.certify(0);
        Due.is("one ring, up", x.reading(0, 0), 1050);
        Due.is("one ring, down", x.reading(0, 1), 1000);
        Due.is("one ring, no more", x.reading(0, 2), NO_SUCH);
        x = Testers.heaviest();
        x.gauge(0, 0, 1);
        x.certify(0);
        Due.is("14 rings, the first", x.reading(0, 0), 100870);
        Due.is("14 rings, all stacked", x.reading(0, 13), 1399180);
        Due.is("14 rings, the last but one", x.reading(0, 26), 100870);
        Due.is("14 rings, the last", x.reading(0, 27), 1000);
        Due.is("14 rings, no more", x.reading(0, 28), NO_SUCH);
    }

    private static void wrongWithoutASign() {
        Due.sentence("A reading is wrong by its size less the pressure, without a sign");
        GaugeColumns x = Testers.withRings(400);
        x.gauge(-10, 0, 1);
        x.gauge(10, 0, 1);
        x.gauge(0, 0, 1);
        Due.is("reads too little", x.test(0, 0), 49);
        Due.is("reads too much", x.test(1, 0), 49);
        Due.is("reads what is", x.test(2, 0), 0);
        Due.is("certify(0)", x.certify(0), 49);
        Due.is("as the certificate tells", x.ofGauge(0, 6), 49);
    }

    private static void passesUpToAllowed() {
        Due.sentence("The gauge passes if no reading is wrong by more than ALLOWED");
        GaugeColumns x = Testers.withRings(911);
        x.gauge(99, 0, 1);
        x.gauge(0, 0, 1);
        x.set(2, 999);
        Due.is("10100 * 99 / 1000", x.test(0, 0), 999);
        Due.is("999 of 999", x.test(0, 1), 1);
        Due.is("999 of 999", x.certify(0) + x.count(6), 1000);
        x.set(2, 998);
        Due.is("999 of 998", x.test(0, 1), 0);
        x.set(2, 0);
        Due.is("0 of 0", x.test(1, 1), 1);
        Due.is("0 of 0", x.certify(1) + x.count(6), 2);
        x.tune(1, 1);
        Due.is("more of 0", x.test(1, 1), 0);
        Due.is("more of 0", x.certify(1), 10);
        Due.is("no certificate", x.ofGauge(1, 5), 0);
        x.lose();
        x.ring(912);
        x.set(2, 999);
        Due.is("10110 * 99 / 1000", x.certify(0), 1000);
        Due.is("1000 of 999", x.test(0, 1), 0);
        Due.is("1000 of 999", x.ofGauge(0, 5), 0);
    }

    private static void testChangesNothing() {
        Due.sentence("Nothing of the column and the hands is changed by a test");
        GaugeColumns x = Testers.withRings(100, 5);
        x.gauge(3, 30, 7);
        x.gauge(0, 99, 1);
        x.stack(0);
        int[] before = Testers.state(x);
        x.test(0, 0);
        x.bestError(1, 0);
        Due.same("test() and bestError()", Testers.state(x), before);
        x.set(2, 0);
        before = Testers.state(x);
        x.certify(1);
        Due.same("certify() of one that does not pass", Testers.state(x), before);
        x.set(2, 999);
        int[] hands = {x.count(2), x.ofGauge(0, 3), x.ofGauge(1, 3)};
        x.certify(0);
        x.certify(1);
        Due.is("both pass", x.count(6), 2);
        Due.same("certify()", new int[] {x.count(2), x.ofGauge(0, 3), x.ofGauge(1, 3)}, hands);
    }

    private static void certificateAsItWas() {
        Due.sentence("A certificate has its readings, AIR as it was, and the greatest wrong");
        GaugeColumns x = Testers.withRings(9900);
        x.gauge(0, 3, 1);
        x.set(0, 9);
        x.certify(0);
        x.set(0, 0);
        x.stack(0);
        x.set(2, 0);
        Due.is("its reading", x.reading(0, 0), 99847);
        Due.is("the last one", x.reading(0, 1), 1003);
        Due.is("its greatest wrong", x.ofGauge(0, 6), 3);
        Due.is("its AIR", x.ofGauge(0, 7), 9);
    }

    private static void atMostOneCertificate() {
        Due.sentence("A gauge has at most one certificate, the latest one");
        GaugeColumns x = Testers.withRings(9900);
        x.gauge(0, 0, 1);
        x.certify(0);
        x.set(0, 0);
        x.certify(0);
        Due.is("one", x.count(6), 1);
        Due.is("the latest AIR", x.ofGauge(0, 7), 0);
        Due.is("the latest reading", x.reading(0, 0), 99900);
        Due.is("no more readings", x.reading(0, 2), NO_SUCH);
    }

    private static void allVoid(GaugeColumns x, String why) {
        Due.is(why + ", none is left", x.count(6), 0);
        for (int gauge = 0; gauge < 6; gauge++) {
            Due.is(why + ", ofGauge(" + gauge + ", 5)", x.ofGauge(gauge, 5), 0);
            Due.is(why + ", ofGauge(" + gauge + ", 6)", x.ofGauge(gauge, 6), NONE);
            Due.is(why + ", ofGauge(" + gauge + ", 7)", x.ofGauge(gauge, 7), NONE);
            Due.is(why + ", reading(" + gauge + ", 0)", x.reading(gauge, 0), NO_SUCH);
        }
    }

    private static void voidByRings() {
        Due.sentence("A certificate is void, and gone, if a ring comes or goes");
        GaugeColumns x = Testers.certified();
        x.ring(1);
        allVoid(x, "ring()");
        x = Testers.certified();
        x.lose();
        allVoid(x, "lose()");
        x = Testers.certified();
        Due.put(x, "m1");
        x.carryOut();
        allVoid(x, "the order m1");
        x.lose();
        allVoid(x, "as many rings as before");
        x = Testers.certified();
        Due.is("ring(0)", x.ring(0), BAD_VALUE);
        Due.is("a ring that does not come", x.count(6), 6);
    }

    private static void voidByArea() {
        Due.sentence("A certificate is void, and gone, if AREA is set (also to what it is)");
        GaugeColumns x = Testers.certified();
        x.set(1, 11);
        allVoid(x, "another AREA");
        x = Testers.certified();
        x.set(1, 10);
        allVoid(x, "the same AREA");
        x = Testers.certified();
        Due.is("set(1, 0)", x.set(1, 0), BAD_VALUE);
        Due.is("set(1, 100)", x.set(1, 100), BAD_VALUE);
        Due.is("AREA is not set", x.count(6), 6);
    }

    private static void voidByTuning() {
        Due.sentence("A certificate is void, and gone, if its gauge is tuned (also to what it is)");
        for (int gauge = 0; gauge < 6; gauge++) {
            GaugeColumns x = Testers.certified();
            x.tune(gauge, gauge % 2);
            Due.is("its own", x.ofGauge(gauge, 5), 0);
            Due.is("its readings", x.reading(gauge, 0), NO_SUCH);
            Due.is("its alone", x.count(6), 5);
            Due.is("tune(" + gauge + ", 100)", x.tune((gauge + 1) % 6, 100), BAD_VALUE);
            Due.is("it is not tuned", x.count(6), 5);
        }
    }

    private static void notVoid() {
        Due.sentence("A certificate is void by nothing else");
        GaugeColumns x = Testers.certified();
        x.set(0, 9);
        x.set(2, 0);
        x.stack(0);
        x.take(0);
        x.test(0, 0);
        Due.put(x, "a0;+1;-1;t5");
        Due.is("carryOut()", x.carryOut(), 4);
        Due.is("a test that is not passed", x.certify(5), 5);
        Due.is("all are there", x.count(6), 6);
        Due.is("with its readings", x.reading(5, 0), 1495);
        GaugeColumns y = Testers.withRings(1);
        y.gauge(0, 0, 1);
        y.certify(0);
        y.gauge(0, 0, 1);
        Due.is("a gauge that comes", y.count(6), 1);
        Due.is("stack(1)", y.stack(1), NO_SUCH);
        Due.is("take(0)", y.take(0), NOT_POSSIBLE);
        Due.is("what is refused", y.count(6), 1);
    }
}
