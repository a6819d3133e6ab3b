/** Promises 23 to 25: undo, save and restore. */
public final class HistoryTest {
    private static final int BAD_VALUE = -2, NOT_POSSIBLE = -5;

    public static void main(String[] args) {
        undo();
        undoOfSix();
        undoOfEachChange();
        undoOverAnother();
        undoAroundTheCircle();
        notUndone();
        certificatesComeBack();
        save();
        restore();
        restoreIsAChange();
        Due.end("HistoryTest");
    }

    private static void undo() {
        GaugeColumns x = new GaugeColumns();
        Due.is("undo() of nothing", x.undo(), NOT_POSSIBLE);
        x.set(2, 50);
        Due.is("undo: also of what made nothing different", x.count(11), 1);
        x.ring(5);
        Due.is("undo()", x.undo(), 1);
        Due.is("undo: no ring", x.count(0), 0);
        Due.is("undo()", x.undo(), 0);
        Due.is("undo() of nothing", x.undo(), NOT_POSSIBLE);
    }

    private static void undoOfSix() {
        GaugeColumns x = new GaugeColumns();
        for (int value = 1; value <= 8; value++) {
            x.set(2, value);
            Due.is("undo: recorded", x.count(11), Math.min(value, 6));
        }
        for (int left = 5; left >= 0; left--) {
            Due.is("undo: left", x.undo(), left);
            Due.is("undo: as it was", x.count(9), left + 2);
        }
        Due.is("undo: the oldest were dropped", x.undo(), NOT_POSSIBLE);
        Due.is("undo: the oldest were dropped", x.count(9), 2);
    }

    /** A new object for each, so that no state of the history was the one before already. */
    private static void undoOfEachChange() {
        for (int change = 0; change < 10; change++) {
            GaugeColumns x = new GaugeColumns();
            x.ring(300);
            x.ring(10);
            x.gauge(0, 40, 3);
            x.stack(1);
            x.certify(0);
            x.save(1);
            if (change == 9) {
                x.set(0, 9);
            }
            int[] before = Testers.state(x);
            int could = Math.min(x.count(11) + 1, 6);
            change(x, change);
            Due.is("undo: recorded " + change, x.count(11), could);
            Due.is("undo: of " + change, x.undo(), could - 1);
            Due.same("undo: of " + change, Testers.state(x), before);
        }
    }

    /** What comes in the place of something undone leaves no trace in it. */
    private static void undoOverAnother() {
        GaugeColumns x = new GaugeColumns();
        x.ring(5);
        x.gauge(1, 2, 3);
        x.save(0);
        x.undo();
        x.lose();
        x.ring(7);
        x.gauge(4, 5, 6);
        x.restore(0);
        int[] due = {5, 101, 2, 3, 999};
        Due.same("restore: over another", ringAndGauge(x), due);
        x.undo();
        int[] before = {7, 104, 5, 6, 999};
        Due.same("undo: over another", ringAndGauge(x), before);
        x.undo();
        x.undo();
        x.undo();
        Due.is("undo: over another", x.ofRing(0, 0), 5);
    }

    private static int[] ringAndGauge(GaugeColumns x) {
        return new int[] {x.ofRing(0, 0), x.ofGauge(0, 0), x.ofGauge(0, 1), x.ofGauge(0, 2), x.ofGauge(0, 3)};
    }

    private static void change(GaugeColumns x, int change) {
        switch (change) {
            case 0: x.set(1, 3); break;
            case 1: x.ring(7); break;
            case 2: x.lose(); break;
            case 3: x.stack(0); break;
            case 4: x.take(1); break;
            case 5: x.gauge(1, 1, 1); break;
            case 6: x.tune(0, 50); break;
            case 7: x.set(0, 0); x.undo(); x.certify(0); break;
            case 8: Due.put(x, "m9;+0;a3"); x.carryOut(); break;
            default: x.restore(1); break;
        }
    }

    private static void undoAroundTheCircle() {
        GaugeColumns x = new GaugeColumns();
        for (int round = 0; round < 20; round++) {
            x.set(2, 100 + round);
            x.set(2, 200 + round);
            x.ring(0);
            x.set(2, 300 + round);
            x.undo();
            x.undo();
            Due.is("undo: around", x.count(9), 100 + round);
            x.undo();
            x.set(2, 400 + round);
        }
        // Each round drops up to two of the oldest states: three are recorded, three undone, one recorded
        Due.is("undo: around", x.count(11), 4);
        for (int left = 3; left >= 0; left--) {
            Due.is("undo: around", x.undo(), left);
            Due.is("undo: around", x.count(9), 415 + left);
        }
    }

    private static void notUndone() {
        GaugeColumns x = new GaugeColumns();
        x.ring(5);
        Due.put(x, "m1");
        x.save(0);
        x.ring(6);
        Due.is("undo: save and put are no changes", x.undo(), 1);
        Due.is("undo: not the pad", x.count(10), 2);
        Due.is("undo: one ring", x.count(0), 1);
        Due.is("undo()", x.undo(), 0);
        Due.is("undo: not the slots", x.restore(0), 1);
        Due.is("undo: not the pad", x.count(10), 2);
    }

    private static void certificatesComeBack() {
        GaugeColumns x = new GaugeColumns();
        x.ring(400);
        x.gauge(10, 0, 1);
        x.certify(0);
        x.set(0, 9);
        x.certify(0);
        x.tune(0, 0);
        Due.is("undo: gone", x.ofGauge(0, 5), 0);
        x.undo();
        Due.is("undo: back", x.ofGauge(0, 7), 9);
        x.undo();
        Due.is("undo: the one before", x.ofGauge(0, 7), 4);
        Due.is("undo: its reading", x.reading(0, 0), 5039);
        x.undo();
        x.undo();
        Due.is("undo: before it was certified", x.ofGauge(0, 5), 0);
    }

    private static void save() {
        GaugeColumns x = new GaugeColumns();
        Due.is("save(-1)", x.save(-1), BAD_VALUE);
        Due.is("save(2)", x.save(2), BAD_VALUE);
        Due.is("save(least int)", x.save(Integer.MIN_VALUE), BAD_VALUE);
        Due.is("save(0)", x.save(0), 0);
        x.ring(1);
        x.ring(2);
        Due.is("save(1)", x.save(1), 2);
        Due.is("save: is no change", x.count(11), 2);
        x.ring(3);
        Due.is("save: overwrites", x.save(0), 3);
        x.lose();
        Due.is("save: restored", x.restore(0), 3);
        Due.is("save: the other slot", x.restore(1), 2);
    }

    private static void restore() {
        GaugeColumns x = new GaugeColumns();
        Due.is("restore(-1)", x.restore(-1), BAD_VALUE);
        Due.is("restore(2)", x.restore(2), BAD_VALUE);
        Due.is("restore(0)", x.restore(0), NOT_POSSIBLE);
        Due.is("restore(1)", x.restore(1), NOT_POSSIBLE);
        Due.is("restore: errors are not recorded", x.count(11), 0);
        x.ring(300);
        x.ring(10);
        x.gauge(-3, 40, 3);
        x.set(2, 300);
        x.stack(1);
        x.certify(0);
        int[] saved = Testers.state(x);
        x.save(0);
        Due.is("restore: the other slot", x.restore(1), NOT_POSSIBLE);
        for (int round = 0; round < 2; round++) {
            for (int i = 0; i < 10; i++) {
                change(x, i < 9 ? i : 0);
            }
            Due.put(x, "m7");
            Due.is("restore(0)", x.restore(0), 2);
            Due.is("restore: not the pad", x.wipe(), 2);
            Due.same("restore: round " + round, Testers.state(x), saved);
        }
    }

    private static void restoreIsAChange() {
        GaugeColumns x = new GaugeColumns();
        x.save(1);
        x.ring(5);
        Due.is("restore(1)", x.restore(1), 0);
        Due.is("restore: recorded", x.count(11), 2);
        Due.is("restore: undone", x.undo(), 1);
        Due.is("restore: undone", x.count(0), 1);
        Due.is("restore: the slot keeps it", x.restore(1), 0);
    }
}
