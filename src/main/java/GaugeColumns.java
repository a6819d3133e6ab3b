import java.util.Arrays;

/** A dead weight tester for gauges. What each method promises stands in DOC.md. */
public final class GaugeColumns {
    public static final int NO_SUCH = -1, BAD_VALUE = -2, BAD_TEXT = -3, TOO_MANY = -4, NOT_POSSIBLE = -5, NONE = -6;
    public static final int AIR = 0, AREA = 1, ALLOWED = 2;

    private static final int MAX_RINGS = 14, MAX_GAUGES = 6, MAX_STATES = 6, MAX_SLOTS = 2;
    private static final int CARRIER = 100, MAX_GRAMS = 9999, MAX_ERROR = 99, MAX_PLAY = 99, MAX_STEP = 99;
    private static final int MAX_TEXT = 80, MAX_AT_ONCE = 8, MAX_DIGITS = 4, FIRST_CODE = 33, LAST_CODE = 126;
    private static final int GREATEST_INT = 0x7fffffff;

    // Of AIR, AREA and ALLOWED, in this order.
    private static final int[] AT_FIRST = {4, 10, 50};
    private static final int[] LEAST = {0, 1, 0};
    private static final int[] MOST = {9, 99, 999};

    private final Tester now = new Tester();
    private final History history = new History();
    private final Tester[] slots = new Tester[MAX_SLOTS];
    private final Trial trial = new Trial();
    private final Pad pad = new Pad();

    public GaugeColumns() {
    }

    // ---- changes

    public int set(int setting, int value) {
        history.remember(now);
        return history.settle(now.change(setting, value));
    }

    public int ring(int grams) {
        history.remember(now);
        return history.settle(now.addRing(grams));
    }

    public int lose() {
        history.remember(now);
        return history.settle(now.dropRing());
    }

    public int stack(int ring) {
        history.remember(now);
        return history.settle(now.putOn(ring));
    }

    public int take(int ring) {
        history.remember(now);
        return history.settle(now.takeOff(ring));
    }

    public int gauge(int error, int play, int step) {
        history.remember(now);
        return history.settle(now.addGauge(error, play, step));
    }

    public int tune(int gauge, int error) {
        history.remember(now);
        return history.settle(now.adjust(gauge, error));
    }

    public int certify(int gauge) {
        history.remember(now);
        return history.settle(now.certifyBy(trial, gauge));
    }

    // ---- what there is

    public int ofRing(int ring, int what) {
        if (!now.hasRing(ring)) {
            return NO_SUCH;
        }
        switch (what) {
            case 0: return now.grams[ring];
            case 1: return now.isStacked(ring) ? 1 : 0;
            case 2: return now.placeOf(ring);
            default: return BAD_VALUE;
        }
    }

    public int ofGauge(int gauge, int what) {
        Gauge asked = now.gaugeAt(gauge);
        return asked == null ? NO_SUCH : asked.tell(what);
    }

    public int reading(int gauge, int place) {
        Gauge asked = now.gaugeAt(gauge);
        if (asked == null || asked.certificate == null) {
            return NO_SUCH;
        }
        int[] readings = asked.certificate.readings;
        return place < 0 || place >= readings.length ? NO_SUCH : readings[place];
    }

    public int count(int what) {
        switch (what) {
            case 0: return now.ringCount;
            case 1: return now.gaugeCount;
            case 2: return now.column;
            case 3: return now.massOf(now.column);
            case 4: return weightOf(now.massOf(now.column), now.settings[AIR]);
            case 5: return now.columnPressure();
            case 6: return now.countCertificates();
            case 7: return now.settings[AIR];
            case 8: return now.settings[AREA];
            case 9: return now.settings[ALLOWED];
            case 10: return pad.length;
            case 11: return history.kept;
            default: return BAD_VALUE;
        }
    }

    // ---- what if; nothing changes

    public int pressure(int rings) {
        if (rings < 0) {
            return BAD_VALUE;
        }
        return now.pressureOf(now.massOf(rings), now.settings[AIR]);
    }

    public int nearest(int pressure, int what) {
        if (pressure < 0 || what < 0 || what > 1) {
            return BAD_VALUE;
        }
        int rings = now.nearestTo(pressure);
        return what == 0 ? rings : now.pressureOf(now.massOf(rings), now.settings[AIR]);
    }

    public int test(int gauge, int what) {
        Gauge tested = now.gaugeAt(gauge);
        if (tested == null) {
            return NO_SUCH;
        }
        if (what < 0 || what > 3) {
            return BAD_VALUE;
        }
        if (now.ringCount == 0) {
            return NOT_POSSIBLE;
        }
        trial.prepare(now);
        trial.run(tested, tested.error);
        switch (what) {
            case 0: return trial.greatest;
            case 1: return trial.greatest <= now.settings[ALLOWED] ? 1 : 0;
            case 2: return trial.worst;
            default: return trial.length;
        }
    }

    public int bestError(int gauge, int what) {
        Gauge tested = now.gaugeAt(gauge);
        if (tested == null) {
            return NO_SUCH;
        }
        if (what < 0 || what > 1) {
            return BAD_VALUE;
        }
        if (now.ringCount == 0) {
            return NOT_POSSIBLE;
        }
        trial.prepare(now);
        int best = -MAX_ERROR;
        int least = GREATEST_INT;
        for (int error = -MAX_ERROR; error <= MAX_ERROR; error++) {
            trial.run(tested, error);
            if (trial.greatest < least) {
                best = error;
                least = trial.greatest;
            }
        }
        return what == 0 ? best + 100 : least;
    }

    public int airCosts(int air) {
        if (air < LEAST[AIR] || air > MOST[AIR]) {
            return BAD_VALUE;
        }
        return now.pressureOf(now.massOf(now.column), air) - now.columnPressure() + 10000;
    }

    // ---- texts

    public int put(long characters) {
        return pad.append(characters);
    }

    public int wipe() {
        return pad.clear();
    }

    public int fault() {
        return pad.findFault();
    }

    public int carryOut() {
        if (pad.findFault() != NONE) {
            return BAD_TEXT;
        }
        history.remember(now);
        pad.rewind();
        int done = 0;
        while (done < MAX_TEXT && pad.nextOrder() && carryOutOrder() >= 0) {
            done++;
        }
        pad.clear();
        return history.settle(done);
    }

    private int carryOutOrder() {
        int number = pad.numbers[0];
        switch (pad.kind) {
            case 'm': return now.addRing(number);
            case 'g': return now.addGauge(number, pad.numbers[1], pad.numbers[2]);
            case '+': return now.putOn(number);
            case '-': return now.takeOff(number);
            case 'a': return now.change(AIR, number);
            default: return now.certifyBy(trial, number);
        }
    }

    // ---- undo, saving

    public int undo() {
        return history.stepBack(now);
    }

    public int save(int slot) {
        if (slot < 0 || slot >= MAX_SLOTS) {
            return BAD_VALUE;
        }
        if (slots[slot] == null) {
            slots[slot] = new Tester();
        }
        slots[slot].copyFrom(now);
        return now.ringCount;
    }

    public int restore(int slot) {
        if (slot < 0 || slot >= MAX_SLOTS) {
            return BAD_VALUE;
        }
        if (slots[slot] == null) {
            return NOT_POSSIBLE;
        }
        history.remember(now);
        now.copyFrom(slots[slot]);
        return history.settle(now.ringCount);
    }

    // ---- numbers: no mass, pressure or hand is ever below 0, and no product of them leaves the int

    private static int dividedDown(int number, int by) {
        return by < 1 ? 0 : number / by;
    }

    private static int dividedRounded(int number, int by) {
        return by < 1 ? 0 : (2 * number + by) / (2 * by);
    }

    private static int weightOf(int mass, int air) {
        return mass - dividedRounded(mass * (100 + 5 * air), 100000);
    }

    /** Everything that undo and the slots bring back. */
    private static final class Tester {
        final int[] settings = AT_FIRST.clone();
        final int[] grams = new int[MAX_RINGS];
        final Gauge[] gauges = new Gauge[MAX_GAUGES];
        int ringCount;
        int column;
        int gaugeCount;

        Tester() {
            for (int i = 0; i < MAX_GAUGES; i++) {
                gauges[i] = new Gauge();
            }
        }

        void copyFrom(Tester other) {
            System.arraycopy(other.settings, 0, settings, 0, settings.length);
            System.arraycopy(other.grams, 0, grams, 0, MAX_RINGS);
            for (int i = 0; i < MAX_GAUGES; i++) {
                gauges[i].copyFrom(other.gauges[i]);
            }
            ringCount = other.ringCount;
            column = other.column;
            gaugeCount = other.gaugeCount;
        }

        int change(int setting, int value) {
            if (setting < 0 || setting >= settings.length || value < LEAST[setting] || value > MOST[setting]) {
                return BAD_VALUE;
            }
            int previous = settings[setting];
            settings[setting] = value;
            if (setting == AREA) {
                voidCertificates();
            }
            moveHands();
            return previous;
        }

        int addRing(int mass) {
            if (mass < 1 || mass > MAX_GRAMS) {
                return BAD_VALUE;
            }
            if (ringCount >= MAX_RINGS) {
                return TOO_MANY;
            }
            grams[ringCount] = mass;
            voidCertificates();
            return ringCount++;
        }

        int dropRing() {
            if (ringCount < 1) {
                return NOT_POSSIBLE;
            }
            ringCount--;
            column &= ~(1 << ringCount);
            voidCertificates();
            moveHands();
            return grams[ringCount];
        }

        int putOn(int ring) {
            if (!hasRing(ring)) {
                return NO_SUCH;
            }
            if (isStacked(ring)) {
                return NOT_POSSIBLE;
            }
            column |= 1 << ring;
            return moveHands();
        }

        int takeOff(int ring) {
            if (!hasRing(ring)) {
                return NO_SUCH;
            }
            if (!isStacked(ring)) {
                return NOT_POSSIBLE;
            }
            column &= ~(1 << ring);
            return moveHands();
        }

        int addGauge(int error, int play, int step) {
            if (error < -MAX_ERROR || error > MAX_ERROR || play < 0 || play > MAX_PLAY || step < 1 || step > MAX_STEP) {
                return BAD_VALUE;
            }
            if (gaugeCount >= MAX_GAUGES) {
                return TOO_MANY;
            }
            gauges[gaugeCount].begin(error, play, step);
            gauges[gaugeCount].follow(columnPressure());
            return gaugeCount++;
        }

        int adjust(int number, int error) {
            Gauge gauge = gaugeAt(number);
            if (gauge == null) {
                return NO_SUCH;
            }
            if (error < -MAX_ERROR || error > MAX_ERROR) {
                return BAD_VALUE;
            }
            int previous = gauge.error + 100;
            gauge.error = error;
            gauge.certificate = null;
            gauge.follow(columnPressure());
            return previous;
        }

        int certifyBy(Trial trial, int number) {
            Gauge gauge = gaugeAt(number);
            if (gauge == null) {
                return NO_SUCH;
            }
            if (ringCount == 0) {
                return NOT_POSSIBLE;
            }
            trial.prepare(this);
            trial.run(gauge, gauge.error);
            if (trial.greatest <= settings[ALLOWED]) {
                gauge.certificate = new Certificate(trial, settings[AIR]);
            }
            return trial.greatest;
        }

        boolean hasRing(int ring) {
            return ring >= 0 && ring < ringCount;
        }

        boolean isStacked(int ring) {
            return (column >> ring & 1) == 1;
        }

        /** How many rings come before one in a test. */
        int placeOf(int ring) {
            int place = 0;
            for (int i = 0; i < ringCount; i++) {
                if (grams[i] < grams[ring] || grams[i] == grams[ring] && i < ring) {
                    place++;
                }
            }
            return place;
        }

        Gauge gaugeAt(int number) {
            return number < 0 || number >= gaugeCount ? null : gauges[number];
        }

        int countCertificates() {
            int certificates = 0;
            for (int i = 0; i < gaugeCount; i++) {
                if (gauges[i].certificate != null) {
                    certificates++;
                }
            }
            return certificates;
        }

        int massOf(int rings) {
            int mass = CARRIER;
            for (int i = 0; i < ringCount; i++) {
                if ((rings >> i & 1) == 1) {
                    mass += grams[i];
                }
            }
            return mass;
        }

        int pressureOf(int mass, int air) {
            return dividedDown(weightOf(mass, air) * 100, settings[AREA]);
        }

        int columnPressure() {
            return pressureOf(massOf(column), settings[AIR]);
        }

        /** Goes through the sets in the order of their numbers, so that of equal ones the least stays. */
        int nearestTo(int wanted) {
            int best = 0;
            int least = GREATEST_INT;
            int mass = CARRIER;
            for (int rings = 0; rings < 1 << ringCount; rings++) {
                int off = Math.abs(pressureOf(mass, settings[AIR]) - wanted);
                if (off < least || off == least && Integer.bitCount(rings) < Integer.bitCount(best)) {
                    best = rings;
                    least = off;
                }
                mass += massToNext(rings);
            }
            return best;
        }

        /** What the mass gains from a set to the next one: counting on takes the lowest rings out up to one that comes. */
        private int massToNext(int rings) {
            int gain = 0;
            int ring = 0;
            while (ring < ringCount && (rings >> ring & 1) == 1) {
                gain -= grams[ring];
                ring++;
            }
            return ring < ringCount ? gain + grams[ring] : gain;
        }

        /** A hand that has gone with a pressure stays at it, so that this may be called more often than needed. */
        private int moveHands() {
            int pressure = columnPressure();
            for (int i = 0; i < gaugeCount; i++) {
                gauges[i].follow(pressure);
            }
            return pressure;
        }

        private void voidCertificates() {
            for (int i = 0; i < gaugeCount; i++) {
                gauges[i].certificate = null;
            }
        }
    }

    private static final class Gauge {
        int error;
        int play;
        int step;
        int hand;
        Certificate certificate;

        void begin(int firstError, int firstPlay, int firstStep) {
            error = firstError;
            play = firstPlay;
            step = firstStep;
            hand = 0;
            certificate = null;
        }

        void copyFrom(Gauge other) {
            error = other.error;
            play = other.play;
            step = other.step;
            hand = other.hand;
            certificate = other.certificate;
        }

        void follow(int pressure) {
            int size = dividedDown(pressure * Math.abs(error), 1000);
            int truth = error < 0 ? pressure - size : pressure + size;
            if (hand < truth - play) {
                hand = truth - play;
            } else if (hand > truth + play) {
                hand = truth + play;
            }
        }

        int shown() {
            return dividedRounded(hand, step) * step;
        }

        int tell(int what) {
            switch (what) {
                case 0: return error + 100;
                case 1: return play;
                case 2: return step;
                case 3: return hand;
                case 4: return shown();
                case 5: return certificate == null ? 0 : 1;
                case 6: return certificate == null ? NONE : certificate.greatest;
                case 7: return certificate == null ? NONE : certificate.air;
                default: return BAD_VALUE;
            }
        }
    }

    /** Never changes, so that states may share it. It needs no AREA: it is void as soon as that is set. */
    private static final class Certificate {
        final int[] readings;
        final int greatest;
        final int air;

        Certificate(Trial trial, int airThen) {
            readings = Arrays.copyOf(trial.readings, trial.length);
            greatest = trial.greatest;
            air = airThen;
        }
    }

    /** A test of a gauge, done with a gauge of its own, so that no hand that there is moves. */
    private static final class Trial {
        final int[] readings = new int[2 * MAX_RINGS];
        int length;
        int greatest;
        int worst;
        private final Gauge gauge = new Gauge();
        private final int[] sorted = new int[MAX_RINGS];
        private final int[] pressures = new int[MAX_RINGS + 1];

        /** Works out the pressures behind 0, 1, 2 .. rings, which are the same for every gauge. */
        void prepare(Tester tester) {
            int rings = tester.ringCount;
            for (int i = 0; i < rings; i++) {
                sorted[tester.placeOf(i)] = tester.grams[i];
            }
            int mass = CARRIER;
            pressures[0] = tester.pressureOf(mass, tester.settings[AIR]);
            for (int i = 0; i < rings; i++) {
                mass += sorted[i];
                pressures[i + 1] = tester.pressureOf(mass, tester.settings[AIR]);
            }
            length = 2 * rings;
        }

        void run(Gauge tested, int error) {
            gauge.begin(error, tested.play, tested.step);
            greatest = 0;
            worst = 0;
            for (int place = 0; place < length; place++) {
                int pressure = pressures[place < length / 2 ? place + 1 : length - 1 - place];
                gauge.follow(pressure);
                readings[place] = gauge.shown();
                int wrong = Math.abs(readings[place] - pressure);
                if (wrong > greatest) {
                    greatest = wrong;
                    worst = place;
                }
            }
        }
    }

    /** The states before the latest changes, in a circle. */
    private static final class History {
        // One more than can be undone: a call's state is remembered before it is known whether the call fails.
        private final Tester[] states = new Tester[MAX_STATES + 1];
        private int next;
        int kept;

        History() {
            for (int i = 0; i < states.length; i++) {
                states[i] = new Tester();
            }
        }

        void remember(Tester now) {
            states[next].copyFrom(now);
        }

        /** Records what was remembered unless the call answers with an error, and hands the answer on. */
        int settle(int answer) {
            if (answer >= 0) {
                next = next < MAX_STATES ? next + 1 : 0;
                kept = Math.min(kept + 1, MAX_STATES);
            }
            return answer;
        }

        int stepBack(Tester now) {
            if (kept < 1) {
                return NOT_POSSIBLE;
            }
            next = next > 0 ? next - 1 : MAX_STATES;
            kept--;
            now.copyFrom(states[next]);
            return kept;
        }
    }

    /** The text of orders, read by a cursor that stays before the first character that cannot stand at its place. */
    private static final class Pad {
        final int[] numbers = new int[3];
        int kind;
        int length;
        private final char[] signs = new char[MAX_TEXT];
        private int cursor;

        int append(long characters) {
            int added = howMany(characters);
            if (added == 0) {
                return BAD_VALUE;
            }
            if (length + added > MAX_TEXT) {
                return TOO_MANY;
            }
            for (int i = added - 1; i >= 0; i--) {
                signs[length] = (char) (characters >>> 8 * i & 255);
                length++;
            }
            return length;
        }

        /** 0 also if one of them may not stand in a text: a 0 below others is such a one. */
        private static int howMany(long characters) {
            int found = 0;
            while (found < MAX_AT_ONCE && characters >>> 8 * found != 0) {
                long code = characters >>> 8 * found & 255;
                if (code < FIRST_CODE || code > LAST_CODE) {
                    return 0;
                }
                found++;
            }
            return found;
        }

        int clear() {
            int had = length;
            length = 0;
            return had;
        }

        int findFault() {
            rewind();
            boolean whole = nextOrder();
            for (int i = 1; i < MAX_TEXT && whole && cursor < length; i++) {
                whole = nextOrder();
            }
            return whole && cursor == length ? NONE : cursor;
        }

        void rewind() {
            cursor = 0;
        }

        /** Whether there is a whole order at the cursor, with its ";" if it is not the first one. */
        boolean nextOrder() {
            if (cursor > 0 && !pass(';')) {
                return false;
            }
            kind = signAt(cursor);
            switch (kind) {
                case 'm': case '+': case '-': case 't':
                    return pass(kind) && readNumber(0);
                case 'a':
                    return pass(kind) && readDigit();
                case 'g':
                    return pass(kind) && readValue() && pass(',') && readNumber(1) && pass(',') && readNumber(2);
                default:
                    return false;
            }
        }

        private boolean readValue() {
            boolean negative = pass('-');
            if (!readNumber(0)) {
                return false;
            }
            if (negative) {
                numbers[0] = -numbers[0];
            }
            return true;
        }

        /** Stops before a digit too many: nothing that may follow a number is a digit, so that it is the fault. */
        private boolean readNumber(int which) {
            if (!isDigit(signAt(cursor))) {
                return false;
            }
            int value = 0;
            int digits = 0;
            while (digits < MAX_DIGITS && isDigit(signAt(cursor)) && (digits == 0 || value > 0)) {
                value = value * 10 + signAt(cursor) - '0';
                cursor++;
                digits++;
            }
            numbers[which] = value;
            return true;
        }

        private boolean readDigit() {
            int sign = signAt(cursor);
            if (!isDigit(sign)) {
                return false;
            }
            numbers[0] = sign - '0';
            cursor++;
            return true;
        }

        private boolean pass(int sign) {
            if (signAt(cursor) != sign) {
                return false;
            }
            cursor++;
            return true;
        }

        /** 0, which is no sign of a text, behind the end. */
        private int signAt(int place) {
            return place < 0 || place >= length ? 0 : signs[place];
        }

        private static boolean isDigit(int sign) {
            return sign >= '0' && sign <= '9';
        }
    }
}
