import java.util.function.Supplier;
import java.util.function.ToIntFunction;

/** The sentences of "Terms" about errors: their order, and that a call that returns one changes nothing. */
public final class RefusedCallsTest {
    private static final int NO_SUCH = -1, BAD_VALUE = -2, BAD_TEXT = -3, TOO_MANY = -4, NOT_POSSIBLE = -5;
    private static final int LEAST = Integer.MIN_VALUE, GREATEST = Integer.MAX_VALUE;

    public static void main(String[] args) {
        firstErrorThatApplies();
        changesNothing();
        textsChangeNothing();
        fullChangesNothing();
        emptyChangesNothing();
        Due.end("RefusedCallsTest");
    }

    private static void firstErrorThatApplies() {
        Due.sentence("A method names its errors in the order in which they are checked, the first one is returned");
        GaugeColumns none = new GaugeColumns();
        Due.is("stack: neither such a ring nor one that is stacked", none.stack(0), NO_SUCH);
        Due.is("take: neither such a ring nor one that is stacked", none.take(0), NO_SUCH);
        Due.is("tune: no gauge, no error", none.tune(0, 100), NO_SUCH);
        Due.is("certify: no gauge, no rings", none.certify(0), NO_SUCH);
        Due.is("ofRing: no ring, no what", none.ofRing(0, 3), NO_SUCH);
        Due.is("ofGauge: no gauge, no what", none.ofGauge(0, 8), NO_SUCH);
        Due.is("test: no gauge, no what, no rings", none.test(0, 4), NO_SUCH);
        Due.is("bestError: no gauge, no what, no rings", none.bestError(0, 2), NO_SUCH);
        Due.is("restore: no slot, nothing saved", none.restore(2), BAD_VALUE);
        none.gauge(0, 0, 1);
        Due.is("test: no what, no rings", none.test(0, 4), BAD_VALUE);
        Due.is("test: no what, no rings", none.test(0, -1), BAD_VALUE);
        Due.is("bestError: no what, no rings", none.bestError(0, 2), BAD_VALUE);
        Due.is("bestError: no what, no rings", none.bestError(0, -1), BAD_VALUE);
        GaugeColumns full = full();
        Due.is("ring: no grams, too many", full.ring(0), BAD_VALUE);
        Due.is("ring: too many grams, too many", full.ring(10000), BAD_VALUE);
        Due.is("gauge: no error, too many", full.gauge(100, 0, 1), BAD_VALUE);
        Due.is("gauge: no play, too many", full.gauge(0, 100, 1), BAD_VALUE);
        Due.is("gauge: no step, too many", full.gauge(0, 0, 0), BAD_VALUE);
        Due.is("put: no character, too many", full.put(0), BAD_VALUE);
        Due.is("put: a wrong code, too many", full.put(32), BAD_VALUE);
        Due.is("put: a bit above a 0, too many", full.put('m' << 16 | '1'), BAD_VALUE);
    }

    /** Something of everything: six changes to undo, a slot that is filled and one that is not, a pad with a fault. */
    private static GaugeColumns some() {
        GaugeColumns x = Testers.withRings(500, 20);
        x.gauge(10, 30, 7);
        x.set(2, 999);
        x.save(0);
        x.stack(0);
        x.stack(1);
        x.set(0, 9);
        x.take(0);
        x.certify(0);
        Due.put(x, "m1;x");
        return x;
    }

    /** No ring, no gauge and no character more. */
    private static GaugeColumns full() {
        GaugeColumns x = Testers.withRings(1, 2, 3, 4, 5, 6, 7, 8, 9, 10, 11, 12, 13, 14);
        for (int i = 0; i < 6; i++) {
            x.gauge(i, i, 1 + i);
        }
        for (int i = 0; i < 10; i++) {
            Due.put(x, "m1;m2;m3");
        }
        return x;
    }

    /** Compares with a twin that the call was not made of: what is there, what is undone, what is restored. */
    private static void refused(String name, Supplier<GaugeColumns> made, ToIntFunction<GaugeColumns> call, int error) {
        GaugeColumns x = made.get();
        GaugeColumns twin = made.get();
        Due.is(name, call.applyAsInt(x), error);
        Due.same(name + ": what there is", Testers.state(x), Testers.state(twin));
        Due.same(name + ": the pad and the history", Testers.padAndHistory(x), Testers.padAndHistory(twin));
        for (int i = 0; i < 7; i++) {
            Due.is(name + ": undo()", x.undo(), twin.undo());
            sameCounts(name + ": undone " + i, x, twin);
        }
        for (int slot = 0; slot < 2; slot++) {
            Due.is(name + ": restore(" + slot + ")", x.restore(slot), twin.restore(slot));
            sameCounts(name + ": restored " + slot, x, twin);
        }
        Due.is(name + ": the pad", x.wipe(), twin.wipe());
    }

    private static void sameCounts(String name, GaugeColumns x, GaugeColumns twin) {
        for (int what = 0; what < 12; what++) {
            Due.is(name + ", count(" + what + ")", x.count(what), twin.count(what));
        }
    }

    private static void changesNothing() {
        Due.sentence("A call that returns an error changes nothing");
        Supplier<GaugeColumns> some = RefusedCallsTest::some;
        refused("set(-1, 5)", some, x -> x.set(-1, 5), BAD_VALUE);
        refused("set(3, 5)", some, x -> x.set(3, 5), BAD_VALUE);
        refused("set(0, -1)", some, x -> x.set(0, -1), BAD_VALUE);
        refused("set(0, 10)", some, x -> x.set(0, 10), BAD_VALUE);
        refused("set(1, 0)", some, x -> x.set(1, 0), BAD_VALUE);
        refused("set(1, 100)", some, x -> x.set(1, 100), BAD_VALUE);
        refused("set(2, -1)", some, x -> x.set(2, -1), BAD_VALUE);
        refused("set(2, 1000)", some, x -> x.set(2, 1000), BAD_VALUE);
        refused("ring(0)", some, x -> x.ring(0), BAD_VALUE);
        refused("ring(10000)", some, x -> x.ring(10000), BAD_VALUE);
        refused("stack(2)", some, x -> x.stack(2), NO_SUCH);
        refused("stack(-1)", some, x -> x.stack(-1), NO_SUCH);
        refused("stack(1)", some, x -> x.stack(1), NOT_POSSIBLE);
        refused("take(2)", some, x -> x.take(2), NO_SUCH);
        refused("take(-1)", some, x -> x.take(-1), NO_SUCH);
        refused("take(0)", some, x -> x.take(0), NOT_POSSIBLE);
        refused("gauge(100, 0, 1)", some, x -> x.gauge(100, 0, 1), BAD_VALUE);
        refused("gauge(0, 100, 1)", some, x -> x.gauge(0, 100, 1), BAD_VALUE);
        refused("gauge(0, 0, 0)", some, x -> x.gauge(0, 0, 0), BAD_VALUE);
        refused("tune(1, 0)", some, x -> x.tune(1, 0), NO_SUCH);
        refused("tune(-1, 0)", some, x -> x.tune(-1, 0), NO_SUCH);
        refused("tune(0, 100)", some, x -> x.tune(0, 100), BAD_VALUE);
        refused("tune(0, -100)", some, x -> x.tune(0, -100), BAD_VALUE);
        refused("certify(1)", some, x -> x.certify(1), NO_SUCH);
        refused("certify(-1)", some, x -> x.certify(-1), NO_SUCH);
        refused("save(2)", some, x -> x.save(2), BAD_VALUE);
        refused("save(-1)", some, x -> x.save(-1), BAD_VALUE);
        refused("restore(2)", some, x -> x.restore(2), BAD_VALUE);
        refused("restore(-1)", some, x -> x.restore(-1), BAD_VALUE);
        refused("restore(1)", some, x -> x.restore(1), NOT_POSSIBLE);
        askedInVain(some);
    }

    private static void askedInVain(Supplier<GaugeColumns> some) {
        refused("ofRing(2, 0)", some, x -> x.ofRing(2, 0), NO_SUCH);
        refused("ofRing(0, 3)", some, x -> x.ofRing(0, 3), BAD_VALUE);
        refused("ofGauge(1, 0)", some, x -> x.ofGauge(1, 0), NO_SUCH);
        refused("ofGauge(0, 8)", some, x -> x.ofGauge(0, 8), BAD_VALUE);
        refused("reading(1, 0)", some, x -> x.reading(1, 0), NO_SUCH);
        refused("reading(0, 4)", some, x -> x.reading(0, 4), NO_SUCH);
        refused("count(12)", some, x -> x.count(12), BAD_VALUE);
        refused("pressure(-1)", some, x -> x.pressure(-1), BAD_VALUE);
        refused("nearest(-1, 0)", some, x -> x.nearest(-1, 0), BAD_VALUE);
        refused("nearest(0, 2)", some, x -> x.nearest(0, 2), BAD_VALUE);
        refused("test(1, 0)", some, x -> x.test(1, 0), NO_SUCH);
        refused("test(0, 4)", some, x -> x.test(0, 4), BAD_VALUE);
        refused("bestError(1, 0)", some, x -> x.bestError(1, 0), NO_SUCH);
        refused("bestError(0, 2)", some, x -> x.bestError(0, 2), BAD_VALUE);
        refused("airCosts(10)", some, x -> x.airCosts(10), BAD_VALUE);
    }

    private static void textsChangeNothing() {
        Due.sentence("A call of a text that returns an error changes nothing");
        Supplier<GaugeColumns> some = RefusedCallsTest::some;
        refused("put(0)", some, x -> x.put(0), BAD_VALUE);
        refused("put(-1)", some, x -> x.put(-1), BAD_VALUE);
        refused("put: a good one before a wrong one", some, x -> x.put('m' << 8 | 32), BAD_VALUE);
        refused("put: a good one behind a wrong one", some, x -> x.put(127 << 8 | 'm'), BAD_VALUE);
        refused("carryOut()", some, x -> x.carryOut(), BAD_TEXT);
        // A whole order stands before the fault
        GaugeColumns x = some();
        x.carryOut();
        Due.is("no order is carried out", x.count(0), 2);
        Due.is("the pad stays", x.count(10), 4);
    }

    private static void fullChangesNothing() {
        Due.sentence("A call for which there is no place changes nothing");
        Supplier<GaugeColumns> full = RefusedCallsTest::full;
        refused("ring(5)", full, x -> x.ring(5), TOO_MANY);
        refused("gauge(0, 0, 1)", full, x -> x.gauge(0, 0, 1), TOO_MANY);
        refused("put('m')", full, x -> x.put('m'), TOO_MANY);
        refused("stack(14)", full, x -> x.stack(14), NO_SUCH);
        refused("stack(32)", full, x -> x.stack(32), NO_SUCH);
        refused("take(14)", full, x -> x.take(14), NO_SUCH);
        refused("stack(greatest)", full, x -> x.stack(GREATEST), NO_SUCH);
        refused("take(least)", full, x -> x.take(LEAST), NO_SUCH);
        refused("tune(6, 0)", full, x -> x.tune(6, 0), NO_SUCH);
        refused("certify(6)", full, x -> x.certify(6), NO_SUCH);
    }

    private static void emptyChangesNothing() {
        Due.sentence("A call for which there is nothing changes nothing");
        Supplier<GaugeColumns> empty = GaugeColumns::new;
        refused("lose()", empty, x -> x.lose(), NOT_POSSIBLE);
        refused("stack(0)", empty, x -> x.stack(0), NO_SUCH);
        refused("take(0)", empty, x -> x.take(0), NO_SUCH);
        refused("tune(0, 0)", empty, x -> x.tune(0, 0), NO_SUCH);
        refused("certify(0)", empty, x -> x.certify(0), NO_SUCH);
        refused("carryOut()", empty, x -> x.carryOut(), BAD_TEXT);
        refused("undo()", empty, x -> x.undo(), NOT_POSSIBLE);
        refused("restore(0)", empty, x -> x.restore(0), NOT_POSSIBLE);
        Supplier<GaugeColumns> oneGauge = RefusedCallsTest::oneGauge;
        refused("certify(0) without rings", oneGauge, x -> x.certify(0), NOT_POSSIBLE);
        refused("test(0, 0) without rings", oneGauge, x -> x.test(0, 0), NOT_POSSIBLE);
        refused("bestError(0, 0) without rings", oneGauge, x -> x.bestError(0, 0), NOT_POSSIBLE);
        refused("lose() behind the last", oneGauge, x -> x.lose(), NOT_POSSIBLE);
    }

    private static GaugeColumns oneGauge() {
        GaugeColumns x = Testers.withRings(1);
        x.gauge(0, 0, 1);
        x.lose();
        return x;
    }
}
