/** Promises 19 to 22: the pad, its fault, and its orders. */
public final class PadTest {
    private static final int BAD_VALUE = -2, BAD_TEXT = -3, TOO_MANY = -4, NONE = -6;

    public static void main(String[] args) {
        put();
        putTooMany();
        putInOrder();
        wipe();
        whole();
        faults();
        faultStays();
        carryOut();
        carryOutUpToAnError();
        carryOutIsOneChange();
        carryOutEveryOrder();
        carryOutAFullPad();
        Due.end("PadTest");
    }

    private static void put() {
        GaugeColumns x = new GaugeColumns();
        Due.is("put(0)", x.put(0), BAD_VALUE);
        Due.is("put(-1)", x.put(-1), BAD_VALUE);
        Due.is("put(least long)", x.put(Long.MIN_VALUE), BAD_VALUE);
        Due.is("put(greatest long)", x.put(Long.MAX_VALUE), BAD_VALUE);
        Due.is("put: code 32", x.put(32), BAD_VALUE);
        Due.is("put: code 127", x.put(127), BAD_VALUE);
        Due.is("put: code 128", x.put(128), BAD_VALUE);
        Due.is("put: code 255", x.put(255), BAD_VALUE);
        Due.is("put: code 32 as the first of two", x.put(32 << 8 | 'm'), BAD_VALUE);
        Due.is("put: code 127 as the first of eight", x.put(127L << 56 | Due.packed("m1;m1;m")), BAD_VALUE);
        Due.is("put: 0 below a character", x.put('m' << 8), BAD_VALUE);
        Due.is("put: 0 between characters", x.put('m' << 16 | '1'), BAD_VALUE);
        Due.is("put: a bit above a 0", x.put(1L << 63 | 'm'), BAD_VALUE);
        Due.is("put: a bit right above a 0", x.put(1L << 16 | 'm'), BAD_VALUE);
        Due.is("put: errors change nothing", x.count(10), 0);
        Due.is("put: code 33", x.put(33), 1);
        Due.is("put: code 126", x.put(126), 2);
        Due.is("put: code 126 as the first of eight", x.put(126L << 56 | Due.packed("m1;m1;m")), 10);
        Due.is("put: three", x.put(Due.packed("abc")), 13);
        Due.is("put: is no change", x.count(11), 0);
    }

    private static void putTooMany() {
        GaugeColumns x = new GaugeColumns();
        for (int i = 1; i <= 9; i++) {
            Due.is("put: eight", x.put(Due.packed("m1234;m1")), 8 * i);
        }
        Due.is("put: one", x.put('2'), 73);
        Due.is("put: eight above 80", x.put(Due.packed("m1234;m1")), TOO_MANY);
        Due.is("put: eight wrong ones above 80", x.put(-1), BAD_VALUE);
        Due.is("put: errors change nothing", x.count(10), 73);
        Due.is("put: up to 80", x.put(Due.packed("3;+0;+1")), 80);
        Due.is("put: one above 80", x.put('1'), TOO_MANY);
        Due.is("put: 0 above 80", x.put(0), BAD_VALUE);
        Due.is("put: the length", x.count(10), 80);
        Due.is("wipe()", x.wipe(), 80);
        Due.is("put: again", x.put('1'), 1);
    }

    private static void putInOrder() {
        GaugeColumns x = new GaugeColumns();
        x.put(Due.packed("m123"));
        x.put(Due.packed("4;m5"));
        Due.is("put: in order, no fault", x.fault(), NONE);
        x.carryOut();
        Due.is("put: in order", x.ofRing(0, 0), 1234);
        Due.is("put: in order", x.ofRing(1, 0), 5);
    }

    private static void wipe() {
        GaugeColumns x = new GaugeColumns();
        Due.is("wipe: empty", x.wipe(), 0);
        Due.put(x, "m1;m");
        Due.is("wipe: four", x.wipe(), 4);
        Due.is("wipe: is empty", x.count(10), 0);
        Due.is("wipe: is empty", x.fault(), 0);
        Due.is("wipe: is no change", x.count(11), 0);
    }

    private static void whole() {
        String[] texts = {"m0", "m9", "m10", "m9999", "+0", "+9999", "-0", "-13", "a0", "a9", "t0", "t9999",
            "g0,0,0", "g-0,0,1", "g-9999,9999,9999", "g5,0,10", "m1;m2", "m0;+0;-0;a0;t0;g-1,2,3", "a0;a1"};
        for (String text : texts) {
            Due.is("fault of " + text, Due.faultOf(text), NONE);
        }
    }

    private static void faults() {
        String[] early = {"", "m", "+", "-", "a", "t", "g", "g-", "g1", "g-1", "g1,", "g1,2", "g1,2,", "m1;", "a1;g0,0"};
        for (String text : early) {
            Due.is("fault of " + text, Due.faultOf(text), text.length());
        }
        String[] texts = {"x", "1", ";", "M1", "~", "!", ",", "mm", "m-1", "m+1", "m;", "m01", "m00", "m10000", "m99990", "m1m", "m1,",
            "+-1", "+01", "--1", "-;", "-00", "a-", "a;", "a10", "a00", "aa", "t-1", "t01", "t12345", "g,", "g--1", "g-x", "g+1",
            "g01,1,1", "g-01,1,1", "g-00,1,1", "g10000,1,1", "g-10000,1,1", "g1;", "g1,,", "g1,-1,1", "g1,01,1", "g1,10000,1", "g1,1;",
            "g1,1,-1", "g1,1,00", "g1,1,10000", "g1,1,1,", "m1;;", "m1;1", "m1;m2 ".trim() + "!", "a1;a", "a9;x1", "m1:m2", "m1/", "m:"};
        int[] due = {0, 0, 0, 0, 0, 0, 0, 1, 1, 1, 1, 2, 2, 5, 5, 2, 2,
            1, 2, 1, 1, 2, 1, 1, 2, 2, 1, 1, 2, 5, 1, 2, 2, 1,
            2, 3, 3, 5, 6, 2, 3, 3, 4, 7, 4,
            5, 6, 9, 6, 3, 3, 5, 4, 3, 2, 2, 1};
        Due.is("faults: the rows", texts.length, due.length);
        for (int i = 0; i < due.length; i++) {
            Due.is("fault of " + texts[i], Due.faultOf(texts[i]), due[i]);
        }
        GaugeColumns x = new GaugeColumns();
        for (int i = 0; i < 20; i++) {
            Due.put(x, "m12;");
        }
        Due.is("fault of a full pad that ends too early", x.fault(), 80);
        GaugeColumns y = new GaugeColumns();
        for (int i = 0; i < 26; i++) {
            Due.put(y, "m1;");
        }
        Due.put(y, "m1");
        Due.is("fault of a full pad", y.fault(), NONE);
    }

    private static void faultStays() {
        GaugeColumns x = new GaugeColumns();
        Due.put(x, "m1;x");
        Due.is("fault()", x.fault(), 3);
        Due.is("fault() again", x.fault(), 3);
        Due.is("carryOut() with a fault", x.carryOut(), BAD_TEXT);
        Due.is("carryOut: the pad stays", x.count(10), 4);
        Due.is("carryOut: nothing is carried out", x.count(0), 0);
        Due.is("carryOut: errors are not recorded", x.count(11), 0);
        x.wipe();
        Due.is("carryOut() of an empty pad", x.carryOut(), BAD_TEXT);
        Due.put(x, "m1;");
        Due.is("carryOut() of a text that ends too early", x.carryOut(), BAD_TEXT);
    }

    private static void carryOut() {
        GaugeColumns x = new GaugeColumns();
        Due.put(x, "m500;m20;g-5,3,2;+1;a9;t0;-1");
        Due.is("carryOut: all", x.carryOut(), 7);
        Due.is("carryOut: empties the pad", x.count(10), 0);
        Due.is("carryOut: m", x.ofRing(0, 0), 500);
        Due.is("carryOut: m", x.ofRing(1, 0), 20);
        Due.is("carryOut: g", x.ofGauge(0, 0), 95);
        Due.is("carryOut: g", x.ofGauge(0, 1), 3);
        Due.is("carryOut: g", x.ofGauge(0, 2), 2);
        Due.is("carryOut: a", x.count(7), 9);
        Due.is("carryOut: t", x.ofGauge(0, 7), 9);
        Due.is("carryOut: + and -", x.count(2), 0);
        // At 1200 T is 1194 and the hand 1191; back at 1000 T is 995, and the hand 998
        Due.is("carryOut: the hand went with each order", x.ofGauge(0, 3), 998);
        Due.is("carryOut: one change", x.count(11), 1);
    }

    private static void carryOutUpToAnError() {
        GaugeColumns x = new GaugeColumns();
        Due.put(x, "m1;m0;m2");
        Due.is("carryOut: up to an error", x.carryOut(), 1);
        Due.is("carryOut: what was before it stays", x.count(0), 1);
        Due.is("carryOut: empties the pad", x.count(10), 0);
        Due.put(x, "t0");
        Due.is("carryOut: none", x.carryOut(), 0);
        Due.is("carryOut: none is a change too", x.count(11), 2);
        String[] wrong = {"m0", "+1", "-0", "-1", "g100,0,1", "g-100,0,1", "g0,100,1", "g0,0,0", "g0,0,100", "t0", "t9999"};
        for (String order : wrong) {
            Due.put(x, order + ";m5");
            Due.is("carryOut: " + order, x.carryOut(), 0);
        }
        Due.put(x, "+0;+0;m5");
        Due.is("carryOut: stacked already", x.carryOut(), 1);
        Due.is("carryOut: nothing behind an error", x.count(0), 1);
    }

    private static void carryOutIsOneChange() {
        GaugeColumns x = new GaugeColumns();
        x.ring(7);
        Due.put(x, "m1;m2;a0;+0;+9;m3");
        Due.is("carryOut: one change", x.carryOut(), 4);
        Due.is("carryOut: one change", x.count(11), 2);
        Due.is("carryOut: undone", x.undo(), 1);
        Due.is("carryOut: undone, the rings", x.count(0), 1);
        Due.is("carryOut: undone, AIR", x.count(7), 4);
        Due.is("carryOut: undone, the column", x.count(2), 0);
        Due.is("carryOut: undone, not the pad", x.count(10), 0);
    }

    private static void carryOutEveryOrder() {
        GaugeColumns x = new GaugeColumns();
        Due.put(x, "m9999");
        Due.is("carryOut: m9999", x.carryOut(), 1);
        Due.is("carryOut: m9999", x.ofRing(0, 0), 9999);
        Due.put(x, "g-99,99,99;g99,0,1;g-0,10,20");
        Due.is("carryOut: three gauges", x.carryOut(), 3);
        Due.is("carryOut: -99", x.ofGauge(0, 0), 1);
        Due.is("carryOut: 99", x.ofGauge(1, 0), 199);
        Due.is("carryOut: -0", x.ofGauge(2, 0), 100);
        Due.is("carryOut: play", x.ofGauge(2, 1), 10);
        Due.is("carryOut: step", x.ofGauge(2, 2), 20);
        Due.put(x, "t2;t1");
        Due.is("carryOut: a test that is not passed is no error", x.carryOut(), 2);
        Due.is("carryOut: a certificate", x.ofGauge(2, 5), 1);
        Due.is("carryOut: none", x.ofGauge(1, 5), 0);
        Due.put(x, "m1");
        x.carryOut();
        Due.is("carryOut: a ring voids certificates", x.count(6), 0);
    }

    private static void carryOutAFullPad() {
        GaugeColumns x = new GaugeColumns();
        StringBuilder text = new StringBuilder("a0");
        while (text.length() < 80) {
            text.append(text.length() / 3 % 2 == 0 ? ";a5" : ";a9");
        }
        Due.is("carryOut: 80 characters", Due.put(x, text.toString()), 80);
        Due.is("carryOut: 27 orders", x.carryOut(), 27);
        Due.is("carryOut: the last one", x.count(7), text.charAt(79) - '0');
    }
}
