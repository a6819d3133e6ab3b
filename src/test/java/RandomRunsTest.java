/** All promises: long runs of calls by a fixed row of numbers, compared with the model of the document. */
public final class RandomRunsTest {
    private static final int RUNS = 10000;
    // What is promised of an object; what comparing everything takes of it; and more than any one step takes
    private static final int CALLS = 512;
    private static final int FOR_EVERYTHING = 12 + 14 * 3 + 6 * 8 + 6 * 28;
    private static final int FOR_A_STEP = 40;
    private static final int[] EDGES = {0, 1, -1, 2, 3, 9, 10, 13, 14, 98, 99, 100, -99, -100, 999, 1000, 9999, 10000,
        Integer.MAX_VALUE, Integer.MIN_VALUE};
    private static final String[] ORDERS = {"m1", "m500", "m9999", "m0", "m37", "g0,0,1", "g-5,10,3", "g99,99,99", "g-99,0,0", "+0", "+1",
        "+2", "-0", "-1", "a0", "a9", "a4", "t0", "t1", "t9", "+13", "m10"};
    private static final String SIGNS = "mg+-at0123456789,;;,x";

    private long seed;
    private GaugeColumns program;
    private Model model;

    public static void main(String[] args) {
        for (int run = 0; run < RUNS; run++) {
            new RandomRunsTest().run(run);
        }
        Due.end("RandomRunsTest");
    }

    private int below(int bound) {
        seed = seed * 6364136223846793005L + 1442695040888963407L;
        return (int) ((seed >>> 33) % bound);
    }

    /** Mostly small, now and then an edge. */
    private int number(int bound) {
        return below(12) == 0 ? EDGES[below(EDGES.length)] : below(bound);
    }

    private void run(int run) {
        seed = run * 7919L + 17;
        program = new GaugeColumns();
        model = new Model();
        int first = Due.asked();
        while (Due.asked() - first < CALLS - FOR_EVERYTHING - FOR_A_STEP) {
            int kind = below(46);
            // The nearest column of many rings takes the model long
            if (kind != 20 || model.count(0) <= 8 || below(20) == 0) {
                call(run + "." + (Due.asked() - first), kind);
            }
        }
        compareEverything("run " + run);
        Due.holds("run " + run + " keeps to the calls of an object", Due.asked() - first <= CALLS);
    }

    private void call(String at, int kind) {
        if (kind < 16) {
            change(at, kind);
        } else if (kind < 36) {
            ask(at, kind);
        } else {
            textOrState(at, kind);
        }
    }

    private void change(String at, int kind) {
        int a = number(15);
        int b = number(100);
        switch (kind) {
            case 0: case 1: case 2:
                int grams = below(3) == 0 ? number(10000) : number(40);
                Due.is(at + " ring(" + grams + ")", program.ring(grams), model.ring(grams));
                break;
            case 3:
                Due.is(at + " lose()", program.lose(), model.lose());
                break;
            case 4: case 5: case 6: case 7:
                Due.is(at + " stack(" + a + ")", program.stack(a), model.stack(a));
                break;
            case 8: case 9:
                Due.is(at + " take(" + a + ")", program.take(a), model.take(a));
                break;
            case 10: case 11:
                int error = number(41) - 20;
                int step = number(30);
                Due.is(at + " gauge(" + error + ", " + b + ", " + step + ")", program.gauge(error, b, step), model.gauge(error, b, step));
                break;
            case 12:
                Due.is(at + " tune(" + a + ", " + b + ")", program.tune(a % 8, b - 50), model.tune(a % 8, b - 50));
                break;
            case 13: case 14:
                Due.is(at + " certify(" + a + ")", program.certify(a % 7), model.certify(a % 7));
                break;
            default:
                int setting = number(3);
                int value = setting == 2 ? number(1000) : setting == 1 ? number(100) : number(10);
                Due.is(at + " set(" + setting + ", " + value + ")", program.set(setting, value), model.set(setting, value));
                break;
        }
    }

    private void ask(String at, int kind) {
        int a = number(15);
        int b = number(5);
        switch (kind) {
            case 16: case 17:
                Due.is(at + " ofRing(" + a + ", " + b + ")", program.ofRing(a, b), model.ofRing(a, b));
                break;
            case 18: case 19:
                int pressed = number(16384);
                Due.is(at + " pressure(" + pressed + ")", program.pressure(pressed), model.pressure(pressed));
                break;
            case 20:
                int near = number(3) == 0 ? number(1 << 30) : number(200000) / (1 + below(100));
                Due.is(at + " nearest(" + near + ", " + b % 2 + ")", program.nearest(near, b % 2), model.nearest(near, b % 2));
                break;
            case 21: case 22: case 23:
                Due.is(at + " test(" + a + ", " + b + ")", program.test(a % 7, b), model.test(a % 7, b));
                break;
            case 24:
                Due.is(at + " bestError(" + a + ", " + b + ")", program.bestError(a % 7, b % 3), model.bestError(a % 7, b % 3));
                break;
            case 25: case 26:
                int air = number(10);
                Due.is(at + " airCosts(" + air + ")", program.airCosts(air), model.airCosts(air));
                break;
            case 27: case 28: case 29:
                int what = number(12);
                Due.is(at + " count(" + what + ")", program.count(what), model.count(what));
                break;
            case 30: case 31: case 32:
                int place = number(29);
                Due.is(at + " reading(" + a + ", " + place + ")", program.reading(a % 7, place), model.reading(a % 7, place));
                break;
            default:
                int asked = number(9);
                Due.is(at + " ofGauge(" + a + ", " + asked + ")", program.ofGauge(a % 7, asked), model.ofGauge(a % 7, asked));
                break;
        }
    }

    private void textOrState(String at, int kind) {
        int slot = below(8) == 0 ? number(3) : below(2);
        switch (kind) {
            case 36: case 37: case 38:
                putText(at, model.count(10) == 0 ? ORDERS[below(ORDERS.length)] : ";" + ORDERS[below(ORDERS.length)]);
                break;
            case 39:
                putWild(at);
                break;
            case 40:
                Due.is(at + " fault()", program.fault(), model.fault());
                break;
            case 41: case 42:
                Due.is(at + " carryOut()", program.carryOut(), model.carryOut());
                if (model.count(10) > 0) {
                    Due.is(at + " wipe()", program.wipe(), model.wipe());
                }
                compareSome(at);
                break;
            case 43:
                Due.is(at + " undo()", program.undo(), model.undo());
                compareSome(at);
                break;
            case 44:
                Due.is(at + " save(" + slot + ")", program.save(slot), model.save(slot));
                break;
            default:
                if (below(3) == 0) {
                    Due.is(at + " restore(" + slot + ")", program.restore(slot), model.restore(slot));
                    compareSome(at);
                }
                break;
        }
    }

    private void putText(String at, String text) {
        for (int from = 0; from < text.length(); from += 8) {
            long characters = Due.packed(text.substring(from, Math.min(from + 8, text.length())));
            Due.is(at + " put(" + text + ")", program.put(characters), model.put(characters));
        }
        Due.is(at + " fault()", program.fault(), model.fault());
    }

    private void putWild(String at) {
        if (below(3) == 0) {
            long characters = (long) below(1 << 30) << 33 >> below(64) ^ below(1 << 30);
            Due.is(at + " put(" + characters + ")", program.put(characters), model.put(characters));
        } else {
            StringBuilder text = new StringBuilder();
            int size = 1 + below(8);
            for (int i = 0; i < size; i++) {
                text.append(SIGNS.charAt(below(SIGNS.length())));
            }
            putText(at, text.toString());
        }
    }

    /** The numbers of the tester, and what a gauge and a ring tell. */
    private void compareSome(String at) {
        compareCounts(at);
        compareRing(at, below(14));
        compareGauge(at, below(6));
    }

    /** Everything that can be asked of the state. */
    private void compareEverything(String at) {
        compareCounts(at);
        for (int ring = 0; ring < 14; ring++) {
            compareRing(at, ring);
        }
        for (int gauge = 0; gauge < 6; gauge++) {
            compareGauge(at, gauge);
            for (int place = 0; place < 28; place++) {
                Due.is(at + " reading(" + gauge + ", " + place + ")", program.reading(gauge, place), model.reading(gauge, place));
            }
        }
    }

    private void compareCounts(String at) {
        for (int what = 0; what < 12; what++) {
            Due.is(at + " count(" + what + ")", program.count(what), model.count(what));
        }
    }

    private void compareRing(String at, int ring) {
        for (int what = 0; what < 3; what++) {
            Due.is(at + " ofRing(" + ring + ", " + what + ")", program.ofRing(ring, what), model.ofRing(ring, what));
        }
    }

    private void compareGauge(String at, int gauge) {
        for (int what = 0; what < 8; what++) {
            Due.is(at + " ofGauge(" + gauge + ", " + what + ")", program.ofGauge(gauge, what), model.ofGauge(gauge, what));
        }
    }
}
