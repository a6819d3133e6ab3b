import java.util.ArrayDeque;
import java.util.ArrayList;
import java.util.Arrays;
import java.util.Comparator;
import java.util.Deque;
import java.util.List;
import java.util.function.IntSupplier;
import java.util.regex.Matcher;
import java.util.regex.Pattern;

/**
 * The document once more, by other means than the program's: states that never change, fractions by
 * comparisons, sorted lists, and a pattern for texts. Slow, and for comparison alone.
 */
final class Model {
    static final int NO_SUCH = -1, BAD_VALUE = -2, BAD_TEXT = -3, TOO_MANY = -4, NOT_POSSIBLE = -5, NONE = -6;

    record Certificate(List<Integer> readings, int air, int greatest) {
    }

    record Gauge(int error, int play, int step, long hand, Certificate certificate) {
        Gauge with(Certificate other) {
            return new Gauge(error, play, step, hand, other);
        }

        Gauge at(long pressure) {
            long truth = pressure + Long.signum(error) * Math.floorDiv(pressure * Math.abs(error), 1000L);
            long gone = Math.min(Math.max(hand, truth - play), truth + play);
            return new Gauge(error, play, step, gone, certificate);
        }

        int reads() {
            return (int) (nearestWhole(hand, step) * step);
        }
    }

    record State(int air, int area, int allowed, List<Integer> rings, List<Integer> column, List<Gauge> gauges) {
        State withSetting(int setting, int value) {
            State next = new State(setting == 0 ? value : air, setting == 1 ? value : area, setting == 2 ? value : allowed,
                rings, column, gauges);
            return (setting == 1 ? next.without() : next).moved();
        }

        State withRings(List<Integer> other) {
            List<Integer> left = column.stream().filter(it -> it < other.size()).toList();
            return new State(air, area, allowed, other, left, gauges).without().moved();
        }

        State withColumn(List<Integer> other) {
            return new State(air, area, allowed, rings, other, gauges).moved();
        }

        State withGauges(List<Gauge> other) {
            return new State(air, area, allowed, rings, column, List.copyOf(other));
        }

        State withGauge(int number, Gauge gauge) {
            List<Gauge> all = new ArrayList<>(gauges);
            all.set(number, gauge);
            return withGauges(all);
        }

        State without() {
            return withGauges(gauges.stream().map(it -> it.with(null)).toList());
        }

        State moved() {
            return withGauges(gauges.stream().map(it -> it.at(pressure(column, air))).toList());
        }

        long mass(List<Integer> set) {
            return 100 + set.stream().mapToLong(rings::get).sum();
        }

        long weight(List<Integer> set, int inAir) {
            return mass(set) - nearestWhole(mass(set) * (100 + 5 * inAir), 100000);
        }

        int pressure(List<Integer> set, int inAir) {
            return (int) Math.floorDiv(weight(set, inAir) * 100, (long) area);
        }

        List<Integer> fromTheLightest() {
            List<Integer> order = new ArrayList<>();
            for (int i = 0; i < rings.size(); i++) {
                order.add(i);
            }
            order.sort(Comparator.comparing(rings::get));
            return order;
        }

        List<Integer> setOf(int mask) {
            List<Integer> set = new ArrayList<>();
            for (int i = 0; i < rings.size(); i++) {
                if ((mask & 1 << i) != 0) {
                    set.add(i);
                }
            }
            return set;
        }
    }

    record Outcome(List<Integer> readings, List<Integer> wrongs) {
        int greatest() {
            return wrongs.stream().max(Comparator.naturalOrder()).orElseThrow();
        }
    }

    private static final Pattern TEXT;

    static {
        String number = "(0|[1-9][0-9]{0,3})";
        String order = "([m+t-]" + number + "|a[0-9]|g-?" + number + "," + number + "," + number + ")";
        TEXT = Pattern.compile(order + "(;" + order + ")*");
    }

    private State now = new State(4, 10, 50, List.of(), List.of(), List.of());
    private final Deque<State> history = new ArrayDeque<>();
    private final State[] slots = new State[2];
    private String pad = "";

    private static long nearestWhole(long number, long by) {
        long below = Math.floorDiv(number, by);
        long rest = number - below * by;
        return rest >= by - rest ? below + 1 : below;
    }

    private int recorded(IntSupplier change) {
        State before = now;
        int answer = change.getAsInt();
        if (answer >= 0) {
            history.addLast(before);
            if (history.size() > 6) {
                history.removeFirst();
            }
        }
        return answer;
    }

    private boolean noRing(int ring) {
        return ring < 0 || ring >= now.rings.size();
    }

    private boolean noGauge(int gauge) {
        return gauge < 0 || gauge >= now.gauges.size();
    }

    int set(int setting, int value) {
        return recorded(() -> setFree(setting, value));
    }

    private int setFree(int setting, int value) {
        if (setting < 0 || setting > 2) {
            return BAD_VALUE;
        }
        if (value < (setting == 1 ? 1 : 0) || value > (setting == 0 ? 9 : setting == 1 ? 99 : 999)) {
            return BAD_VALUE;
        }
        int previous = count(7 + setting);
        now = now.withSetting(setting, value);
        return previous;
    }

    int ring(int grams) {
        return recorded(() -> ringFree(grams));
    }

    private int ringFree(int grams) {
        if (grams < 1 || grams > 9999) {
            return BAD_VALUE;
        }
        if (now.rings.size() == 14) {
            return TOO_MANY;
        }
        List<Integer> rings = new ArrayList<>(now.rings);
        rings.add(grams);
        now = now.withRings(rings);
        return rings.size() - 1;
    }

    int lose() {
        return recorded(() -> {
            if (now.rings.isEmpty()) {
                return NOT_POSSIBLE;
            }
            int last = now.rings.size() - 1;
            int grams = now.rings.get(last);
            now = now.withRings(now.rings.subList(0, last));
            return grams;
        });
    }

    int stack(int ring) {
        return recorded(() -> stackFree(ring));
    }

    private int stackFree(int ring) {
        if (noRing(ring)) {
            return NO_SUCH;
        }
        if (now.column.contains(ring)) {
            return NOT_POSSIBLE;
        }
        List<Integer> column = new ArrayList<>(now.column);
        column.add(ring);
        now = now.withColumn(column);
        return count(5);
    }

    int take(int ring) {
        return recorded(() -> takeFree(ring));
    }

    private int takeFree(int ring) {
        if (noRing(ring)) {
            return NO_SUCH;
        }
        if (!now.column.contains(ring)) {
            return NOT_POSSIBLE;
        }
        now = now.withColumn(now.column.stream().filter(it -> it != ring).toList());
        return count(5);
    }

    int gauge(int error, int play, int step) {
        return recorded(() -> gaugeFree(error, play, step));
    }

    private int gaugeFree(int error, int play, int step) {
        if (error < -99 || error > 99 || play < 0 || play > 99 || step < 1 || step > 99) {
            return BAD_VALUE;
        }
        if (now.gauges.size() == 6) {
            return TOO_MANY;
        }
        List<Gauge> gauges = new ArrayList<>(now.gauges);
        gauges.add(new Gauge(error, play, step, 0, null));
        now = now.withGauges(gauges).moved();
        return gauges.size() - 1;
    }

    int tune(int gauge, int error) {
        return recorded(() -> {
            if (noGauge(gauge)) {
                return NO_SUCH;
            }
            if (error < -99 || error > 99) {
                return BAD_VALUE;
            }
            Gauge was = now.gauges.get(gauge);
            now = now.withGauge(gauge, new Gauge(error, was.play, was.step, was.hand, null)).moved();
            return was.error + 100;
        });
    }

    int certify(int gauge) {
        return recorded(() -> certifyFree(gauge));
    }

    private int certifyFree(int gauge) {
        if (noGauge(gauge)) {
            return NO_SUCH;
        }
        if (now.rings.isEmpty()) {
            return NOT_POSSIBLE;
        }
        Gauge tested = now.gauges.get(gauge);
        Outcome outcome = outcome(tested);
        if (outcome.greatest() <= now.allowed) {
            now = now.withGauge(gauge, tested.with(new Certificate(outcome.readings, now.air, outcome.greatest())));
        }
        return outcome.greatest();
    }

    private Outcome outcome(Gauge tested) {
        List<List<Integer>> columns = new ArrayList<>();
        List<Integer> stacked = new ArrayList<>();
        for (int ring : now.fromTheLightest()) {
            stacked.add(ring);
            columns.add(List.copyOf(stacked));
        }
        while (!stacked.isEmpty()) {
            stacked.remove(stacked.size() - 1);
            columns.add(List.copyOf(stacked));
        }
        List<Integer> readings = new ArrayList<>();
        List<Integer> wrongs = new ArrayList<>();
        Gauge gauge = new Gauge(tested.error, tested.play, tested.step, 0, null);
        for (List<Integer> column : columns) {
            int pressure = now.pressure(column, now.air);
            gauge = gauge.at(pressure);
            readings.add(gauge.reads());
            wrongs.add(Math.abs(gauge.reads() - pressure));
        }
        return new Outcome(readings, wrongs);
    }

    int ofRing(int ring, int what) {
        if (noRing(ring)) {
            return NO_SUCH;
        }
        List<Integer> answers = Arrays.asList(now.rings.get(ring), now.column.contains(ring) ? 1 : 0, now.fromTheLightest().indexOf(ring));
        return what < 0 || what > 2 ? BAD_VALUE : answers.get(what);
    }

    int ofGauge(int gauge, int what) {
        if (noGauge(gauge)) {
            return NO_SUCH;
        }
        Gauge it = now.gauges.get(gauge);
        Certificate paper = it.certificate;
        int[] answers = {it.error + 100, it.play, it.step, (int) it.hand, it.reads(), paper == null ? 0 : 1,
            paper == null ? NONE : paper.greatest, paper == null ? NONE : paper.air};
        return what < 0 || what > 7 ? BAD_VALUE : answers[what];
    }

    int reading(int gauge, int place) {
        if (noGauge(gauge) || now.gauges.get(gauge).certificate == null) {
            return NO_SUCH;
        }
        List<Integer> readings = now.gauges.get(gauge).certificate.readings;
        return place < 0 || place >= readings.size() ? NO_SUCH : readings.get(place);
    }

    int count(int what) {
        int mask = now.column.stream().mapToInt(it -> 1 << it).sum();
        long papers = now.gauges.stream().filter(it -> it.certificate != null).count();
        int[] answers = {now.rings.size(), now.gauges.size(), mask, (int) now.mass(now.column), (int) now.weight(now.column, now.air),
            now.pressure(now.column, now.air), (int) papers, now.air, now.area, now.allowed, pad.length(), history.size()};
        return what < 0 || what > 11 ? BAD_VALUE : answers[what];
    }

    int pressure(int rings) {
        return rings < 0 ? BAD_VALUE : now.pressure(now.setOf(rings), now.air);
    }

    int nearest(int pressure, int what) {
        if (pressure < 0 || what < 0 || what > 1) {
            return BAD_VALUE;
        }
        long[] best = null;
        for (int mask = (1 << now.rings.size()) - 1; mask >= 0; mask--) {
            int reached = now.pressure(now.setOf(mask), now.air);
            long[] rank = {Math.abs((long) reached - pressure), Integer.bitCount(mask), mask, reached};
            if (best == null || Arrays.compare(rank, best) < 0) {
                best = rank;
            }
        }
        return (int) best[2 + what];
    }

    int test(int gauge, int what) {
        if (noGauge(gauge)) {
            return NO_SUCH;
        }
        if (what < 0 || what > 3) {
            return BAD_VALUE;
        }
        if (now.rings.isEmpty()) {
            return NOT_POSSIBLE;
        }
        Outcome outcome = outcome(now.gauges.get(gauge));
        int greatest = outcome.greatest();
        int[] answers = {greatest, greatest <= now.allowed ? 1 : 0, outcome.wrongs.indexOf(greatest), outcome.readings.size()};
        return answers[what];
    }

    int bestError(int gauge, int what) {
        if (noGauge(gauge)) {
            return NO_SUCH;
        }
        if (what != 0 && what != 1) {
            return BAD_VALUE;
        }
        if (now.rings.isEmpty()) {
            return NOT_POSSIBLE;
        }
        Gauge it = now.gauges.get(gauge);
        int best = 0;
        int least = Integer.MAX_VALUE;
        for (int error = 99; error >= -99; error--) {
            int greatest = outcome(new Gauge(error, it.play, it.step, 0, null)).greatest();
            if (greatest <= least) {
                best = error;
                least = greatest;
            }
        }
        return what == 0 ? best + 100 : least;
    }

    int airCosts(int air) {
        if (air < 0 || air > 9) {
            return BAD_VALUE;
        }
        return now.pressure(now.column, air) - now.pressure(now.column, now.air) + 10000;
    }

    int put(long characters) {
        StringBuilder text = new StringBuilder();
        boolean over = false;
        for (int i = 0; i < 8; i++) {
            int code = (int) (characters >> 8 * i & 0xff);
            if (code == 0) {
                over = true;
            } else if (over || code < 33 || code > 126) {
                return BAD_VALUE;
            } else {
                text.insert(0, (char) code);
            }
        }
        if (text.length() == 0) {
            return BAD_VALUE;
        }
        if (pad.length() + text.length() > 80) {
            return TOO_MANY;
        }
        pad = pad + text;
        return pad.length();
    }

    int wipe() {
        int had = pad.length();
        pad = "";
        return had;
    }

    int fault() {
        if (TEXT.matcher(pad).matches()) {
            return NONE;
        }
        int good = 0;
        while (good < pad.length()) {
            Matcher start = TEXT.matcher(pad.substring(0, good + 1));
            if (!start.matches() && !start.hitEnd()) {
                return good;
            }
            good++;
        }
        return good;
    }

    int carryOut() {
        if (!TEXT.matcher(pad).matches()) {
            return BAD_TEXT;
        }
        String[] orders = pad.split(";");
        pad = "";
        return recorded(() -> {
            int done = 0;
            for (String order : orders) {
                if (carryOutOrder(order.charAt(0), order.substring(1).split(",")) < 0) {
                    break;
                }
                done++;
            }
            return done;
        });
    }

    private int carryOutOrder(char kind, String[] values) {
        int value = Integer.parseInt(values[0]);
        return switch (kind) {
            case 'm' -> ringFree(value);
            case 'g' -> gaugeFree(value, Integer.parseInt(values[1]), Integer.parseInt(values[2]));
            case '+' -> stackFree(value);
            case '-' -> takeFree(value);
            case 'a' -> setFree(0, value);
            default -> certifyFree(value);
        };
    }

    int undo() {
        if (history.isEmpty()) {
            return NOT_POSSIBLE;
        }
        now = history.removeLast();
        return history.size();
    }

    int save(int slot) {
        if (slot != 0 && slot != 1) {
            return BAD_VALUE;
        }
        slots[slot] = now;
        return now.rings.size();
    }

    int restore(int slot) {
        return recorded(() -> {
            if (slot != 0 && slot != 1) {
                return BAD_VALUE;
            }
            if (slots[slot] == null) {
                return NOT_POSSIBLE;
            }
            now = slots[slot];
            return now.rings.size();
        });
    }
}
