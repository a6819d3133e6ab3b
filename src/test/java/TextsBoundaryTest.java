/** The pad in "Terms", and promises 19 to 22: a test for each sentence that names a boundary case. */
public final class TextsBoundaryTest {
    private static final int BAD_VALUE = -2, BAD_TEXT = -3, TOO_MANY = -4, NONE = -6;
    private static final String DIGITS = "0123456789";
    private static final String ORDERS = "mg+-at";

    public static void main(String[] args) {
        atMost80();
        characterThatCannotStand();
        numberOf0To9999();
        withoutLeadingZeros();
        digitAbove9999();
        valueBelow0();
        digitOfAnAir();
        endsTooEarly();
        empty();
        firstFaultAlone();
        putLowestBitsLast();
        put1To8();
        putNoCharacter();
        putCodes();
        putAbove0();
        putLongerThan80();
        wipeReturnsTheLength();
        faultOfAFullPad();
        carryOutOneAfterTheOther();
        carryOutUpToTheFirstError();
        carryOutEachError();
        carryOutWhenFull();
        carryOutEmptiesThePad();
        carryOutIsOneChange();
        carryOutNoneIsAChange();
        carryOutBadText();
        Due.end("TextsBoundaryTest");
    }

    private static void atMost80() {
        Due.sentence("The pad is a text of at most 80 characters");
        GaugeColumns x = new GaugeColumns();
        for (int length = 1; length <= 80; length++) {
            Due.is("put()", x.put('m'), length);
        }
        Due.is("one more", x.put('m'), TOO_MANY);
        Due.is("its length", x.count(10), 80);
    }

    /** Tries each character behind a text without fault: what cannot stand there is the fault, what can is not. */
    private static void behind(String text, String allowed) {
        for (char sign = 33; sign <= 126; sign++) {
            int fault = Due.faultOf(text + sign);
            if (allowed.indexOf(sign) < 0) {
                Due.is("fault of " + text + sign, fault, text.length());
            } else {
                Due.holds("no fault at " + text.length() + " of " + text + sign, fault == NONE || fault == text.length() + 1);
            }
        }
    }

    private static void characterThatCannotStand() {
        Due.sentence("The fault is the index of the first character that cannot stand at its place");
        behind("", ORDERS);
        for (String kind : new String[] {"m", "+", "-", "t"}) {
            behind(kind, DIGITS);
            behind(kind + "0", ";");
            behind(kind + "9", DIGITS + ";");
            behind(kind + "12", DIGITS + ";");
            behind(kind + "100", DIGITS + ";");
            behind(kind + "9999", ";");
            behind(kind + "1;", ORDERS);
        }
        behind("a", DIGITS);
        behind("a0", ";");
        behind("a9", ";");
        behind("a9;", ORDERS);
        behind("g", DIGITS + "-");
        behind("g-", DIGITS);
        behind("g0", ",");
        behind("g-0", ",");
        behind("g999", DIGITS + ",");
        behind("g-999", DIGITS + ",");
        behind("g9999", ",");
        behind("g-9999", ",");
        behind("g1,", DIGITS);
        behind("g1,0", ",");
        behind("g1,999", DIGITS + ",");
        behind("g1,9999", ",");
        behind("g1,2,", DIGITS);
        behind("g1,2,0", ";");
        behind("g1,2,999", DIGITS + ";");
        behind("g1,2,9999", ";");
        behind("g1,2,3;", ORDERS);
        behind("g-1,2,3;-4", DIGITS + ";");
    }

    private static void numberOf0To9999() {
        Due.sentence("A number is 0 to 9999");
        for (String start : new String[] {"m", "+", "-", "t", "g1,1,"}) {
            Due.is("the least behind " + start, Due.faultOf(start + "0"), NONE);
            Due.is("the most behind " + start, Due.faultOf(start + "9999"), NONE);
            Due.is("one more behind " + start, Due.faultOf(start + "10000"), start.length() + 4);
        }
        Due.is("the most of all", Due.faultOf("g-9999,9999,9999"), NONE);
        Due.is("the least of all", Due.faultOf("g0,0,0"), NONE);
        Due.is("one more, first", Due.faultOf("g10000,0,0"), 5);
        Due.is("one more, second", Due.faultOf("g0,10000,0"), 7);
    }

    private static void withoutLeadingZeros() {
        Due.sentence("A number is without leading zeros");
        for (String start : new String[] {"m", "+", "-", "t", "g", "g-", "g1,", "g1,1,", "m1;m"}) {
            Due.is("00 behind " + start, Due.faultOf(start + "00"), start.length() + 1);
            Due.is("01 behind " + start, Due.faultOf(start + "01"), start.length() + 1);
            Due.is("0001 behind " + start, Due.faultOf(start + "0001"), start.length() + 1);
        }
        Due.is("zeros behind others", Due.faultOf("m1000;m10;+100"), NONE);
    }

    private static void digitAbove9999() {
        Due.sentence("Also of a digit by which a number would be above 9999");
        for (String start : new String[] {"m", "+", "-", "t", "g", "g-", "g1,", "g1,1,", "m1;m"}) {
            Due.is("99990 behind " + start, Due.faultOf(start + "99990"), start.length() + 4);
            Due.is("10000 behind " + start, Due.faultOf(start + "10000"), start.length() + 4);
            // 4294967297 is 1 in 32 bits
            Due.is("4294967297 behind " + start, Due.faultOf(start + "4294967297"), start.length() + 4);
        }
    }

    private static void valueBelow0() {
        Due.sentence("value = [ \"-\" ] number");
        Due.is("-0", Due.faultOf("g-0,0,1"), NONE);
        Due.is("--1", Due.faultOf("g--1,0,1"), 2);
        Due.is("+1", Due.faultOf("g+1,0,1"), 1);
        Due.is("play of -1", Due.faultOf("g1,-1,1"), 3);
        Due.is("a step of -1", Due.faultOf("g1,1,-1"), 5);
        Due.is("a ring of -1", Due.faultOf("m-1"), 1);
        GaugeColumns x = new GaugeColumns();
        Due.put(x, "g-99,0,1;g-0,0,1;g-1,0,1;g99,0,1");
        Due.is("carryOut()", x.carryOut(), 4);
        int[] due = {1, 100, 99, 199};
        for (int gauge = 0; gauge < due.length; gauge++) {
            Due.is("the error of " + gauge, x.ofGauge(gauge, 0), due[gauge]);
        }
    }

    private static void digitOfAnAir() {
        Due.sentence("A digit is 0 to 9");
        for (int row = 0; row < 10; row++) {
            GaugeColumns x = new GaugeColumns();
            Due.put(x, "a" + row);
            Due.is("fault()", x.fault(), NONE);
            Due.is("carryOut()", x.carryOut(), 1);
            Due.is("AIR", x.count(7), row);
        }
        Due.is("two digits", Due.faultOf("a10"), 2);
        Due.is("two zeros", Due.faultOf("a00"), 2);
        Due.is("below 0", Due.faultOf("a-1"), 1);
        Due.is("right below 0", Due.faultOf("a/"), 1);
        Due.is("right above 9", Due.faultOf("a:"), 1);
    }

    private static void endsTooEarly() {
        Due.sentence("If the text ends too early, it is the length of the text");
        String[] texts = {"m", "+", "-", "a", "t", "g", "g-", "g1", "g-9999", "g1,", "g1,2", "g1,2,", "m1;", "m1;g-1,2,3;", "a0;a"};
        for (String text : texts) {
            Due.is("fault of " + text, Due.faultOf(text), text.length());
        }
    }

    private static void empty() {
        Due.sentence("If the text is empty, it is the length of the text");
        GaugeColumns x = new GaugeColumns();
        Due.is("a new object", x.fault(), 0);
        Due.put(x, "m1");
        x.wipe();
        Due.is("behind wipe()", x.fault(), 0);
        Due.put(x, "m1");
        x.carryOut();
        Due.is("behind carryOut()", x.fault(), 0);
    }

    private static void firstFaultAlone() {
        Due.sentence("The text is read from left to right");
        Due.is("two faults", Due.faultOf("m1x;x"), 2);
        Due.is("a fault, and an early end", Due.faultOf("mx;m"), 1);
        String tenAirs = "a0;a1;a2;a3;a4;a5;a6;a7;a8;a9;";
        Due.is("a fault in the last of 27 orders", Due.faultOf(tenAirs + tenAirs + "a0;a1;a2;a3;a4;a5;am"), 79);
        Due.is("no order", Due.faultOf(";m1"), 0);
        Due.is("an order that is empty", Due.faultOf("m1;;m1"), 3);
    }

    private static void putLowestBitsLast() {
        Due.sentence("Promise 19: the lowest 8 bits are the last character, the next 8 bits the one before");
        GaugeColumns x = new GaugeColumns();
        x.put('m' << 24 | '1' << 16 | '2' << 8 | '3');
        x.put('4');
        x.put(Due.packed(";m8765;+"));
        x.put('1');
        Due.is("carryOut()", x.carryOut(), 3);
        Due.is("the first ring", x.ofRing(0, 0), 1234);
        Due.is("the second ring", x.ofRing(1, 0), 8765);
        Due.is("the column", x.count(2), 2);
    }

    private static void put1To8() {
        Due.sentence("Promise 19: 1 to 8 characters");
        String text = "m1234;m5";
        for (int size = 1; size <= 8; size++) {
            GaugeColumns x = new GaugeColumns();
            Due.is("put() of " + size, x.put(Due.packed(text.substring(0, size))), size);
            Due.is("its length", x.count(10), size);
        }
    }

    private static void putNoCharacter() {
        Due.sentence("Promise 19: BAD_VALUE if there is no character");
        GaugeColumns x = new GaugeColumns();
        Due.is("put(0)", x.put(0), BAD_VALUE);
        x.put('m');
        Due.is("put(0) behind another", x.put(0), BAD_VALUE);
        Due.is("the length", x.count(10), 1);
    }

    private static void putCodes() {
        Due.sentence("Promise 19: BAD_VALUE if a code is not 33 to 126");
        GaugeColumns x = new GaugeColumns();
        for (int size = 1; size <= 8; size++) {
            long others = Due.packed("mmmmmmmm".substring(0, size));
            for (int place = 0; place < size; place++) {
                for (long code = 1; code < 256; code++) {
                    boolean fits = code >= 33 && code <= 126;
                    long characters = others & ~(255L << 8 * place) | code << 8 * place;
                    Due.is("code " + code + " at " + place + " of " + size, x.put(characters), fits ? size : BAD_VALUE);
                    x = fits ? new GaugeColumns() : x;
                }
                Due.is("nothing is appended", x.count(10), 0);
                x = new GaugeColumns();
            }
        }
        Due.is("put(-1)", x.put(-1), BAD_VALUE);
        Due.is("put(least long)", x.put(Long.MIN_VALUE), BAD_VALUE);
        Due.is("put(greatest long)", x.put(Long.MAX_VALUE), BAD_VALUE);
    }

    private static void putAbove0() {
        Due.sentence("Promise 19: BAD_VALUE if a bit above 8 bits that are 0 is not 0");
        for (int size = 0; size < 7; size++) {
            long below = Due.packed("mmmmmmm".substring(0, size));
            GaugeColumns x = new GaugeColumns();
            for (int bit = 8 * size + 8; bit < 64; bit++) {
                Due.is("bit " + bit + " above " + size, x.put(below | 1L << bit), BAD_VALUE);
            }
            Due.is("a character above " + size, x.put(below | 109L << 8 * size + 8), BAD_VALUE);
            Due.is("nothing is appended", x.count(10), 0);
        }
    }

    private static GaugeColumns withPad(int length) {
        GaugeColumns x = new GaugeColumns();
        for (int i = 0; i < length; i++) {
            x.put('m');
        }
        return x;
    }

    private static void putLongerThan80() {
        Due.sentence("Promise 19: TOO_MANY if the pad would be longer than 80");
        String text = "mmmmmmmm";
        for (int size = 1; size <= 8; size++) {
            GaugeColumns x = withPad(81 - size);
            Due.is(size + " behind " + (81 - size), x.put(Due.packed(text.substring(0, size))), TOO_MANY);
            Due.is("none of them is appended", x.count(10), 81 - size);
            GaugeColumns y = withPad(80 - size);
            Due.is(size + " behind " + (80 - size), y.put(Due.packed(text.substring(0, size))), 80);
        }
    }

    private static void wipeReturnsTheLength() {
        Due.sentence("Promise 20: empties the pad, and returns the length that it had");
        GaugeColumns x = withPad(80);
        Due.is("of a full one", x.wipe(), 80);
        Due.is("of an empty one", x.wipe(), 0);
        Due.is("it is empty", x.count(10), 0);
        Due.is("there is place again", Due.put(x, "m1"), 2);
        Due.is("nothing of before is left", x.fault(), NONE);
        Due.is("of a short one", x.wipe(), 2);
        Due.is("it is no change", x.count(11), 0);
        Due.is("nor of an object without a text", new GaugeColumns().wipe(), 0);
    }

    /** A pad of 80 characters: 26 orders "a5", and the last two characters. */
    private static GaugeColumns fullPad(String last) {
        GaugeColumns x = new GaugeColumns();
        for (int i = 0; i < 26; i++) {
            Due.put(x, "a5;");
        }
        Due.put(x, last);
        Due.is("80 characters", x.count(10), 80);
        return x;
    }

    private static void faultOfAFullPad() {
        Due.sentence("Promise 21: returns the fault of the pad, NONE if there is none");
        Due.is("a full pad", fullPad("a9").fault(), NONE);
        Due.is("its last character", fullPad("ax").fault(), 79);
        Due.is("its last but one", fullPad("xa").fault(), 78);
        Due.is("a full pad that ends too early", fullPad("g-").fault(), 80);
        Due.is("one character", Due.faultOf("x"), 0);
        Due.is("one order", Due.faultOf("m0"), NONE);
        GaugeColumns x = fullPad("am");
        x.fault();
        Due.is("asked again", x.fault(), 79);
        Due.is("the pad stays", x.count(10), 80);
        Due.is("it is no change", x.count(11), 0);
    }

    private static void carryOutOneAfterTheOther() {
        Due.sentence("Promise 22: carries the orders of the pad out, one after the other; returns how many");
        GaugeColumns full = fullPad("a9");
        Due.is("27 orders", full.carryOut(), 27);
        Due.is("the last one", full.count(7), 9);
        GaugeColumns x = new GaugeColumns();
        Due.put(x, "m9999");
        Due.is("one order", x.carryOut(), 1);
        Due.is("the most grams", x.ofRing(0, 0), 9999);
        Due.put(x, "+0;g0,99,1;-0");
        Due.is("three orders", x.carryOut(), 3);
        // It came at 100870, and went down to 1000 and the play
        Due.is("the hand went with each", x.ofGauge(0, 3), 1099);
    }

    private static GaugeColumns small() {
        GaugeColumns x = Testers.withRings(500);
        x.gauge(0, 0, 1);
        return x;
    }

    private static void carryOutUpToTheFirstError() {
        Due.sentence("Promise 22: up to the first one that returns an error");
        String[] texts = {"m0", "m1;m0", "m0;m1", "m1;m0;m2", "m1;m0;m0;m3", "m1;m2;m3;m0"};
        int[] due = {0, 1, 0, 1, 1, 3};
        for (int i = 0; i < texts.length; i++) {
            GaugeColumns x = small();
            Due.put(x, texts[i]);
            Due.is("carryOut() of " + texts[i], x.carryOut(), due[i]);
            Due.is("rings behind " + texts[i], x.count(0), 1 + due[i]);
        }
    }

    private static void carryOutEachError() {
        Due.sentence("Promise 22: each order that returns an error");
        String[] wrong = {"m0", "g100,0,1", "g-100,0,1", "g9999,0,1", "g-9999,0,1", "g0,100,1", "g0,0,0", "g0,0,100", "g0,9999,9999", "+1",
            "+14", "+32", "+9999", "-0", "-1", "-32", "-9999", "t1", "t6", "t9999"};
        for (String order : wrong) {
            GaugeColumns x = small();
            int[] before = Testers.state(x);
            Due.put(x, order + ";a9;m1");
            Due.is("carryOut() of " + order, x.carryOut(), 0);
            Due.same("what there is behind " + order, Testers.state(x), before);
        }
        GaugeColumns empty = new GaugeColumns();
        empty.gauge(0, 0, 1);
        Due.put(empty, "t0;m1");
        Due.is("a test without rings", empty.carryOut(), 0);
        GaugeColumns x = small();
        Due.put(x, "+0;+0;m1");
        Due.is("stacked already", x.carryOut(), 1);
        Due.is("nothing behind it", x.count(0), 1);
        x.set(2, 0);
        x.tune(0, 99);
        Due.put(x, "t0;t0;a0");
        Due.is("a test that is not passed is none", x.carryOut(), 3);
    }

    private static void carryOutWhenFull() {
        Due.sentence("Promise 22: an order for which there is no place returns an error");
        GaugeColumns x = new GaugeColumns();
        Due.put(x, "m1;m1;m1;m1;m1;m1;m1;m1;m1;m1;m1;m1;m1;m1;m1;a0");
        Due.is("15 rings", x.carryOut(), 14);
        Due.is("14 are there", x.count(0), 14);
        Due.is("nothing behind it", x.count(7), 4);
        Due.put(x, "g0,0,1;g0,0,1;g0,0,1;g0,0,1;g0,0,1;g0,0,1;g0,0,1;a0");
        Due.is("7 gauges", x.carryOut(), 6);
        Due.is("6 are there", x.count(1), 6);
        Due.is("nothing behind it", x.count(7), 4);
    }

    private static void carryOutEmptiesThePad() {
        Due.sentence("Promise 22: and empties the pad");
        for (String text : new String[] {"m1", "m1;m0", "m0", "m0;m1"}) {
            GaugeColumns x = new GaugeColumns();
            Due.put(x, text);
            x.carryOut();
            Due.is("the length behind " + text, x.count(10), 0);
            Due.is("wipe() behind " + text, x.wipe(), 0);
        }
        GaugeColumns full = fullPad("a9");
        full.carryOut();
        Due.is("the length of a full one", full.count(10), 0);
        Due.is("there is place again", full.put('m'), 1);
    }

    private static void carryOutIsOneChange() {
        Due.sentence("Promise 22: this is a change (one, with all of them)");
        GaugeColumns x = small();
        int[] before = Testers.state(x);
        Due.put(x, "m1;+0;g5,6,7;a9;t0;t1;-0;m2");
        Due.is("carryOut()", x.carryOut(), 8);
        Due.is("one more", x.count(11), 3);
        Due.is("undo()", x.undo(), 2);
        Due.same("undone", Testers.state(x), before);
        GaugeColumns full = fullPad("a9");
        full.carryOut();
        Due.is("27 orders are one", full.count(11), 1);
    }

    private static void carryOutNoneIsAChange() {
        Due.sentence("Promise 22: this is a change, also if none is carried out");
        GaugeColumns x = small();
        int[] before = Testers.state(x);
        Due.put(x, "m0");
        Due.is("carryOut()", x.carryOut(), 0);
        Due.is("one more", x.count(11), 3);
        Due.is("undo()", x.undo(), 2);
        Due.same("undone", Testers.state(x), before);
    }

    private static void carryOutBadText() {
        Due.sentence("Promise 22: BAD_TEXT if the pad has a fault (then it stays)");
        for (String text : new String[] {"", "m", "m1;", "m1;x", "x;m1", "m10000", "m01", "m1;m2;m3;m4;m"}) {
            GaugeColumns x = new GaugeColumns();
            Due.put(x, text);
            Due.is("carryOut() of " + text, x.carryOut(), BAD_TEXT);
            Due.is("no order of " + text, x.count(0), 0);
            Due.is("it is no change", x.count(11), 0);
            Due.is("it stays", x.wipe(), text.length());
        }
        GaugeColumns x = new GaugeColumns();
        Due.put(x, "m1;m");
        x.carryOut();
        Due.put(x, "2");
        Due.is("mended", x.carryOut(), 2);
        Due.is("a fault at the end of a full pad", fullPad("am").carryOut(), BAD_TEXT);
    }
}
