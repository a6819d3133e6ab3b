import java.util.function.ToIntFunction;

/** Promises 23 to 25: a test for each sentence that names a boundary case, and "This is a change" of all promises. */
public final class HistoryBoundaryTest {
    private static final int BAD_VALUE = -2, NOT_POSSIBLE = -5;
    private static final int LEAST = Integer.MIN_VALUE, GREATEST = Integer.MAX_VALUE;
    private static final int[] NO_SLOTS = {-1, 2, 3, LEAST, GREATEST};

    public static void main(String[] args) {
        changes();
        changesThatMakeNothingDifferent();
        noChanges();
        asItWas();
        exceptThePad();
        exceptTheSlots();
        exceptTheHistory();
        atMost6();
        oldestIsDropped();
        errorsRecordNothing();
        ordersRecordNothing();
        undoReturnsHowMany();
        undoNone();
        saveEverything();
        saveNotThePad();
        saveNotTheHistory();
        saveNotTheSlots();
        saveOverwrites();
        saveReturnsHowManyRings();
        saveNoSuchSlot();
        restoreWhatWasSavedLast();
        restoreKeepsTheSlot();
        restoreIsAChange();
        restoreReturnsHowManyRings();
        restoreNoSuchSlot();
        restoreNothingSaved();
        Due.end("HistoryBoundaryTest");
    }

    /** One change that made all that there is: two rings, one stacked, a hand within its play, a certificate. */
    private static GaugeColumns some() {
        GaugeColumns x = new GaugeColumns();
        x.save(0);
        Testers.carryOut(x, "m300;m10;g0,40,3;g-5,0,1;+1;-1;t0;+1");
        x.save(1);
        return x;
    }

    /** Each on an object of its own; and undone, everything is as it was. */
    private static void isAChange(String sentence, ToIntFunction<GaugeColumns> call, int answer) {
        Due.sentence(sentence);
        GaugeColumns x = some();
        int[] before = Testers.state(x);
        Due.is("the call", call.applyAsInt(x), answer);
        Due.is("it is recorded", x.count(11), 2);
        Due.is("undo()", x.undo(), 1);
        Due.same("undone", Testers.state(x), before);
    }

    private static void changes() {
        isAChange("Promise 2: this is a change", x -> x.set(1, 3), 10);
        isAChange("Promise 3: this is a change", x -> x.ring(7), 2);
        isAChange("Promise 4: this is a change", x -> x.lose(), 10);
        isAChange("Promise 5: this is a change", x -> x.stack(0), 4100);
        isAChange("Promise 6: this is a change", x -> x.take(1), 1000);
        isAChange("Promise 7: this is a change", x -> x.gauge(1, 1, 1), 2);
        isAChange("Promise 8: this is a change", x -> x.tune(0, 50), 100);
        isAChange("Promise 9: this is a change", x -> x.certify(1), 20);
        isAChange("Promise 22: this is a change", x -> Testers.carryOut(x, "m9;+0"), 2);
        isAChange("Promise 25: this is a change", x -> x.restore(0), 0);
    }

    private static void changesThatMakeNothingDifferent() {
        isAChange("Promise 23: recorded also if nothing is different then, set()", x -> x.set(0, 4), 4);
        isAChange("Promise 23: recorded also if nothing is different then, set()", x -> x.set(2, 50), 50);
        isAChange("Promise 23: recorded also if nothing is different then, tune()", x -> x.tune(1, -5), 95);
        isAChange("Promise 23: recorded also if nothing is different then, certify()", x -> x.certify(0), 41);
        isAChange("Promise 23: recorded also if nothing is different then, restore()", x -> x.restore(1), 2);
        isAChange("Promise 23: recorded also if nothing is different then, carryOut()", x -> Testers.carryOut(x, "m0"), 0);
    }

    private static void noChanges() {
        Due.sentence("Promise 23: each method that is a change records, no other one");
        GaugeColumns x = some();
        int could = x.count(11);
        x.ofRing(0, 0);
        x.ofGauge(0, 4);
        x.reading(0, 0);
        x.pressure(3);
        x.nearest(1000, 0);
        x.test(0, 0);
        x.bestError(0, 0);
        x.airCosts(0);
        Due.put(x, "m1;");
        x.fault();
        x.wipe();
        x.save(0);
        x.save(1);
        Due.is("count(11)", x.count(11), could);
    }

    private static void asItWas() {
        Due.sentence("Promise 23: everything is as it was before it");
        GaugeColumns x = Testers.withRings(1, 2);
        x.gauge(0, 6, 1);
        x.stack(0);
        x.take(0);
        Due.is("the hand is within its play", x.ofGauge(0, 3), 1004);
        x.certify(0);
        int[] before = Testers.state(x);
        x.stack(0);
        x.stack(1);
        x.undo();
        x.undo();
        Due.is("the hand is where it was", x.ofGauge(0, 3), 1004);
        x.set(1, 99);
        x.undo();
        x.lose();
        x.ring(9999);
        x.undo();
        x.undo();
        x.tune(0, 99);
        x.undo();
        Due.same("undone", Testers.state(x), before);
        Due.is("the certificate is back", x.reading(0, 3), 1006);
    }

    private static void exceptThePad() {
        Due.sentence("Promise 23: except the pad");
        GaugeColumns x = new GaugeColumns();
        x.ring(1);
        Due.put(x, "m5");
        Due.is("undo()", x.undo(), 0);
        Due.is("what was put behind the change stays", x.count(10), 2);
        x.ring(1);
        x.wipe();
        x.undo();
        Due.is("what was wiped does not come back", x.count(10), 0);
        Due.put(x, "m5");
        x.carryOut();
        x.undo();
        Due.is("nor what was carried out", x.count(10), 0);
        Due.is("the ring is gone", x.count(0), 0);
    }

    private static void exceptTheSlots() {
        Due.sentence("Promise 23: except the slots");
        GaugeColumns x = new GaugeColumns();
        x.ring(7);
        x.save(1);
        x.undo();
        Due.is("what was saved behind the change stays", x.restore(1), 1);
        Due.is("its ring", x.ofRing(0, 0), 7);
        x.undo();
        Due.is("also when restore() is undone", x.restore(1), 1);
    }

    private static void exceptTheHistory() {
        Due.sentence("Promise 23: except the history");
        GaugeColumns x = new GaugeColumns();
        x.set(2, 1);
        x.set(2, 2);
        x.set(2, 3);
        Due.is("undo()", x.undo(), 2);
        Due.is("undo() is not undone by undo()", x.undo(), 1);
        Due.is("two undone", x.count(9), 1);
        x.set(2, 9);
        Due.is("a change behind it", x.count(11), 2);
        x.undo();
        Due.is("is undone alone", x.count(9), 1);
        x.undo();
        Due.is("the first one", x.count(9), 50);
    }

    private static void atMost6() {
        Due.sentence("Promise 23: a history of at most 6 states is kept");
        GaugeColumns x = new GaugeColumns();
        int[] due = {1, 2, 3, 4, 5, 6, 6, 6, 6, 6, 6, 6, 6, 6, 6};
        for (int i = 0; i < due.length; i++) {
            x.set(2, i);
            Due.is("behind " + (i + 1) + " changes", x.count(11), due[i]);
        }
        for (int left = 5; left >= 0; left--) {
            Due.is("undo()", x.undo(), left);
            Due.is("ALLOWED", x.count(9), 8 + left);
        }
        Due.is("a 7th one", x.undo(), NOT_POSSIBLE);
        Due.is("ALLOWED stays", x.count(9), 8);
    }

    private static void oldestIsDropped() {
        Due.sentence("Promise 23: when one more is recorded, the oldest one is dropped");
        for (int more = 0; more < 9; more++) {
            GaugeColumns x = new GaugeColumns();
            for (int i = 1; i <= 6 + more; i++) {
                x.ring(i);
            }
            for (int i = 0; i < 6; i++) {
                x.undo();
            }
            Due.is("the oldest that is left", x.count(0), more);
            Due.is("no more", x.undo(), NOT_POSSIBLE);
        }
        GaugeColumns y = new GaugeColumns();
        for (int i = 1; i <= 6; i++) {
            y.set(2, i);
        }
        y.undo();
        y.set(2, 60);
        for (int left = 5; left >= 0; left--) {
            Due.is("none is dropped if there is place", y.undo(), left);
        }
        Due.is("the first one is kept", y.count(9), 50);
    }

    private static void errorsRecordNothing() {
        Due.sentence("Promise 23: records if it returns no error");
        GaugeColumns x = new GaugeColumns();
        for (int i = 1; i <= 6; i++) {
            x.set(2, i);
        }
        for (int i = 0; i < 3; i++) {
            refuse(x);
        }
        Due.is("six", x.count(11), 6);
        for (int i = 5; i >= 0; i--) {
            Due.is("undo()", x.undo(), i);
            Due.is("ALLOWED", x.count(9), i == 0 ? 50 : i);
            refuse(x);
        }
        Due.is("none", x.count(11), 0);
    }

    private static void refuse(GaugeColumns x) {
        x.set(2, 1000);
        x.ring(0);
        x.lose();
        x.stack(0);
        x.take(0);
        x.gauge(0, 0, 0);
        x.tune(0, 0);
        x.certify(0);
        x.carryOut();
        x.restore(0);
        x.restore(2);
    }

    private static void ordersRecordNothing() {
        Due.sentence("Promise 23: an order of a text records nothing by itself");
        GaugeColumns x = new GaugeColumns();
        for (int i = 1; i <= 5; i++) {
            x.set(2, i);
        }
        Due.put(x, "m1;m2;+0;-0;g0,0,1;a0;t0");
        Due.is("carryOut()", x.carryOut(), 7);
        Due.is("one more", x.count(11), 6);
        Due.is("undo()", x.undo(), 5);
        Due.is("all orders are undone", x.count(0), 0);
        Due.is("undo()", x.undo(), 4);
        Due.is("nothing was dropped", x.count(9), 4);
    }

    private static void undoReturnsHowMany() {
        Due.sentence("Promise 23: returns how many changes can be undone then");
        GaugeColumns x = Testers.heaviest();
        for (int left = 5; left >= 0; left--) {
            Due.is("undo()", x.undo(), left);
            Due.is("count(11)", x.count(11), left);
        }
    }

    private static void undoNone() {
        Due.sentence("Promise 23: NOT_POSSIBLE if there is none");
        GaugeColumns x = new GaugeColumns();
        Due.is("of a new object", x.undo(), NOT_POSSIBLE);
        x.ring(1);
        Due.is("of the only one", x.undo(), 0);
        Due.is("behind the only one", x.undo(), NOT_POSSIBLE);
        Due.is("and again", x.undo(), NOT_POSSIBLE);
        x.ring(1);
        Due.is("a change is recorded as before", x.count(11), 1);
    }

    private static void saveEverything() {
        Due.sentence("Promise 24: saves everything");
        GaugeColumns x = Testers.withRings(1, 2);
        x.gauge(3, 6, 2);
        x.gauge(0, 6, 1);
        x.stack(0);
        x.take(0);
        x.stack(1);
        x.take(1);
        x.certify(1);
        x.set(0, 9);
        x.set(2, 7);
        int[] saved = Testers.state(x);
        x.save(0);
        x.set(1, 99);
        x.set(0, 0);
        x.set(2, 999);
        x.lose();
        x.ring(9999);
        x.stack(1);
        x.tune(0, -99);
        x.gauge(1, 1, 1);
        x.restore(0);
        Due.same("restored", Testers.state(x), saved);
        GaugeColumns z = new GaugeColumns();
        z.gauge(1, 2, 3);
        z.ring(4);
        saved = Testers.state(z);
        z.save(0);
        z.undo();
        z.undo();
        z.gauge(5, 6, 7);
        z.ring(8);
        int[] before = Testers.state(z);
        z.restore(0);
        Due.same("in the place of others", Testers.state(z), saved);
        z.undo();
        Due.same("the others undone", Testers.state(z), before);
        GaugeColumns y = Testers.certified();
        saved = Testers.state(y);
        y.save(1);
        y.ring(1);
        y.restore(1);
        Due.same("six certificates", Testers.state(y), saved);
    }

    private static void saveNotThePad() {
        Due.sentence("Promise 24: except the pad");
        GaugeColumns x = new GaugeColumns();
        Due.put(x, "m1;");
        x.save(0);
        Due.is("save() leaves it", x.count(10), 3);
        Due.put(x, "m2");
        x.restore(0);
        Due.is("restore() leaves it", x.count(10), 5);
        x.wipe();
        x.restore(0);
        Due.is("restore() does not bring it back", x.count(10), 0);
    }

    private static void saveNotTheHistory() {
        Due.sentence("Promise 24: except the history");
        GaugeColumns x = new GaugeColumns();
        x.save(0);
        Due.is("save() records nothing", x.count(11), 0);
        x.ring(1);
        x.ring(2);
        x.restore(0);
        Due.is("restore() records one more", x.count(11), 3);
        x.undo();
        Due.is("before restore()", x.count(0), 2);
        x.undo();
        Due.is("before the second ring", x.count(0), 1);
    }

    private static void saveNotTheSlots() {
        Due.sentence("Promise 24: except the slots");
        GaugeColumns x = Testers.withRings(1);
        x.save(0);
        x.ring(2);
        x.save(1);
        x.restore(0);
        Due.is("the other slot stays", x.restore(1), 2);
        x.restore(0);
        x.lose();
        x.save(0);
        x.restore(1);
        Due.is("a slot that was saved behind the other stays", x.restore(0), 0);
    }

    private static void saveOverwrites() {
        Due.sentence("Promise 24: and overwrites what was saved there");
        GaugeColumns x = Testers.heaviest();
        x.gauge(0, 0, 1);
        x.certify(0);
        x.save(0);
        x.save(1);
        while (x.count(0) > 0) {
            x.lose();
        }
        Due.is("save(0)", x.save(0), 0);
        Due.is("restore(1)", x.restore(1), 14);
        Due.is("restore(0)", x.restore(0), 0);
        Due.is("its certificates", x.count(6), 0);
        Due.is("its column", x.count(2), 0);
    }

    private static void saveReturnsHowManyRings() {
        Due.sentence("Promise 24: returns how many rings there are");
        Due.is("none", new GaugeColumns().save(0), 0);
        Due.is("none", new GaugeColumns().save(1), 0);
        Due.is("one", Testers.withRings(1).save(0), 1);
        Due.is("14", Testers.heaviest().save(1), 14);
    }

    private static void saveNoSuchSlot() {
        Due.sentence("Promise 24: BAD_VALUE if there is no such slot");
        GaugeColumns x = Testers.withRings(1);
        for (int slot : NO_SLOTS) {
            Due.is("save(" + slot + ")", x.save(slot), BAD_VALUE);
        }
        Due.is("nothing is saved", x.restore(0), NOT_POSSIBLE);
        Due.is("nothing is saved", x.restore(1), NOT_POSSIBLE);
    }

    private static void restoreWhatWasSavedLast() {
        Due.sentence("Promise 25: restores what was saved last in a slot");
        GaugeColumns x = new GaugeColumns();
        for (int rings = 1; rings <= 14; rings++) {
            x.ring(rings);
            x.save(rings % 2);
        }
        Due.is("slot 1", x.restore(1), 13);
        Due.is("slot 0", x.restore(0), 14);
        Due.is("the last ring", x.ofRing(13, 0), 14);
    }

    private static void restoreKeepsTheSlot() {
        Due.sentence("Promise 25: the slot keeps it");
        GaugeColumns x = Testers.certified();
        int[] saved = Testers.state(x);
        x.save(0);
        for (int round = 0; round < 2; round++) {
            Due.is("restore(0)", x.restore(0), 2);
            x.tune(5, 99);
            x.set(1, 1);
            x.lose();
            x.lose();
            x.ring(9999);
        }
        x.restore(0);
        Due.same("restored a third time", Testers.state(x), saved);
    }

    private static void restoreIsAChange() {
        Due.sentence("Promise 25: this is a change");
        GaugeColumns x = new GaugeColumns();
        x.save(0);
        for (int i = 1; i <= 6; i++) {
            x.ring(i);
        }
        x.restore(0);
        Due.is("the oldest one is dropped for it", x.count(11), 6);
        Due.is("undo()", x.undo(), 5);
        Due.is("before restore()", x.count(0), 6);
        for (int left = 4; left >= 0; left--) {
            x.undo();
        }
        Due.is("the oldest that is left", x.count(0), 1);
    }

    private static void restoreReturnsHowManyRings() {
        Due.sentence("Promise 25: returns how many rings there are then");
        GaugeColumns x = new GaugeColumns();
        x.save(0);
        for (int i = 0; i < 14; i++) {
            x.ring(1);
        }
        x.save(1);
        Due.is("none", x.restore(0), 0);
        Due.is("none are there", x.count(0), 0);
        Due.is("14", x.restore(1), 14);
        Due.is("14 are there", x.count(0), 14);
    }

    private static void restoreNoSuchSlot() {
        Due.sentence("Promise 25: BAD_VALUE if there is no such slot");
        GaugeColumns x = new GaugeColumns();
        for (int slot : NO_SLOTS) {
            Due.is("restore(" + slot + ") while nothing is saved", x.restore(slot), BAD_VALUE);
        }
        x.save(0);
        x.save(1);
        for (int slot : NO_SLOTS) {
            Due.is("restore(" + slot + ")", x.restore(slot), BAD_VALUE);
        }
        Due.is("it is no change", x.count(11), 0);
    }

    private static void restoreNothingSaved() {
        Due.sentence("Promise 25: NOT_POSSIBLE if nothing was saved in it");
        for (int slot = 0; slot < 2; slot++) {
            GaugeColumns x = Testers.withRings(1);
            Due.is("nothing is saved", x.restore(slot), NOT_POSSIBLE);
            x.save(1 - slot);
            Due.is("in the other slot alone", x.restore(slot), NOT_POSSIBLE);
            Due.is("it is no change", x.count(11), 1);
            Due.is("the other slot", x.restore(1 - slot), 1);
            x.save(slot);
            Due.is("saved", x.restore(slot), 1);
        }
        GaugeColumns empty = new GaugeColumns();
        empty.save(0);
        Due.is("a saved tester without rings", empty.restore(0), 0);
    }
}
