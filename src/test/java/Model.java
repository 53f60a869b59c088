import java.math.BigInteger;
import java.util.ArrayDeque;
import java.util.ArrayList;
import java.util.Comparator;
import java.util.Deque;
import java.util.List;
import java.util.TreeSet;
import java.util.regex.Matcher;
import java.util.regex.Pattern;

/**
 * The document once more, in another way than the program goes: waits are kept as the tick since when, whole states
 * are copied and kept in lists, texts are read by a pattern, fractions are summed as such. For runs by chance.
 */
final class Model {
    private static final int NO_SUCH = -1, BAD_VALUE = -2, BAD_TEXT = -3, TOO_MANY = -4, NOT_POSSIBLE = -5, NONE = -6;
    private static final int[][] RANGES = {{0, 100}, {0, 31}, {1, 9}, {1, 8}, {0, 9}, {0, 1}, {0, 31}};
    private static final Pattern TEXT = Pattern.compile("O(?:;O)*".replace("O",
        "(?:[umn][A-L]|[hl][A-L][0-3]|t(?:0|[1-9][0-9]{0,2}))"));

    private static final class L implements Cloneable {
        int number, rank, need, deadline;
        boolean level, masked;
        Integer since;
        TreeSet<Integer> holders = new TreeSet<>();
        int edges, lostEdges, ends, misses;
        List<Integer> waits = new ArrayList<>();
    }

    private static final class S {
        L line;
        int rank, left, begun;
    }

    private static final class T {
        L line;
        int period, next;
    }

    private static final class State {
        int tick, served, deepest, interruptions;
        int[] settings = {20, 24, 1, 3, 1, 1, 0};
        List<L> lines = new ArrayList<>();
        List<S> nest = new ArrayList<>();
        List<T> timers = new ArrayList<>();

        State copy() {
            State copy = new State();
            copy.tick = tick;
            copy.served = served;
            copy.deepest = deepest;
            copy.interruptions = interruptions;
            copy.settings = settings.clone();
            for (L l : lines) {
                L c = new L();
                c.number = l.number;
                c.rank = l.rank;
                c.need = l.need;
                c.deadline = l.deadline;
                c.level = l.level;
                c.masked = l.masked;
                c.since = l.since;
                c.holders.addAll(l.holders);
                c.edges = l.edges;
                c.lostEdges = l.lostEdges;
                c.ends = l.ends;
                c.misses = l.misses;
                c.waits.addAll(l.waits);
                copy.lines.add(c);
            }
            for (S s : nest) {
                S c = new S();
                c.line = copy.lines.get(s.line.number);
                c.rank = s.rank;
                c.left = s.left;
                c.begun = s.begun;
                copy.nest.add(c);
            }
            for (T t : timers) {
                T c = new T();
                c.line = copy.lines.get(t.line.number);
                c.period = t.period;
                c.next = t.next;
                copy.timers.add(c);
            }
            return copy;
        }

        int place(L l) {
            for (int i = 0; i < nest.size(); i++) {
                if (nest.get(i).line == l) {
                    return i;
                }
            }
            return NONE;
        }

        int waited(L l) {
            return tick - l.since;
        }

        int present(L l) {
            if (l.since == null || settings[0] == 0 || l.rank >= settings[1]) {
                return l.rank;
            }
            return Math.min(settings[1], l.rank + waited(l) / settings[0]);
        }

        int edge(L l) {
            l.edges++;
            if (l.since != null || (l.masked && settings[5] == 0)) {
                l.lostEdges++;
                return 0;
            }
            l.since = tick;
            return 1;
        }

        L found() {
            return lines.stream()
                .filter(l -> l.since != null && place(l) == NONE && !l.masked && present(l) >= settings[6])
                .max(Comparator.<L>comparingInt(this::present)
                    .thenComparingInt(this::waited)
                    .thenComparingInt(l -> -l.number))
                .orElse(null);
        }

        int cost(L l) {
            return l.need + settings[4];
        }

        /** The line of which a service began, or null. */
        L step() {
            for (T t : timers) {
                if (t.next == tick) {
                    edge(t.line);
                    t.next += t.period;
                }
            }
            L l = found();
            if (l != null) {
                int rank = present(l);
                S top = nest.isEmpty() ? null : nest.get(nest.size() - 1);
                if (top == null || (rank - top.rank >= settings[2] && nest.size() < settings[3])) {
                    int waited = waited(l);
                    l.since = null;
                    l.waits.add(waited);
                    if (l.deadline != 0 && waited > l.deadline) {
                        l.misses++;
                    }
                    S s = new S();
                    s.line = l;
                    s.rank = rank;
                    s.left = cost(l);
                    s.begun = tick;
                    nest.add(s);
                    deepest = Math.max(deepest, nest.size());
                    if (top != null) {
                        interruptions++;
                    }
                } else {
                    l = null;
                }
            }
            if (!nest.isEmpty()) {
                served++;
                S top = nest.get(nest.size() - 1);
                if (--top.left == 0) {
                    nest.remove(top);
                    top.line.ends++;
                    if (top.line.level) {
                        top.line.holders.pollFirst();
                        if (!top.line.holders.isEmpty()) {
                            top.line.since = tick;
                        }
                    }
                }
            }
            tick++;
            return l;
        }

        int misses() {
            return lines.stream().mapToInt(l -> l.misses).sum();
        }
    }

    private State now = new State();
    private final Deque<State> history = new ArrayDeque<>();
    private final State[] slots = new State[2];
    private String pad = "";
    private boolean recording = true;

    private void record() {
        if (recording) {
            history.addLast(now.copy());
            if (history.size() > 6) {
                history.removeFirst();
            }
        }
    }

    private static boolean out(int value, int least, int most) {
        return value < least || value > most;
    }

    private boolean noLine(int line) {
        return out(line, 0, now.lines.size() - 1);
    }

    int set(int setting, int value) {
        if (out(setting, 0, 6) || out(value, RANGES[setting][0], RANGES[setting][1])) {
            return BAD_VALUE;
        }
        record();
        int old = now.settings[setting];
        now.settings[setting] = value;
        return old;
    }

    int line(int rank, int need, int deadline, int level) {
        if (out(rank, 0, 15) || out(need, 1, 50) || out(deadline, 0, 500) || out(level, 0, 1)) {
            return BAD_VALUE;
        }
        if (now.lines.size() == 12) {
            return TOO_MANY;
        }
        record();
        L l = new L();
        l.number = now.lines.size();
        l.rank = rank;
        l.need = need;
        l.deadline = deadline;
        l.level = level == 1;
        now.lines.add(l);
        return l.number;
    }

    int timer(int line, int period, int first) {
        if (noLine(line)) {
            return NO_SUCH;
        }
        if (out(period, 1, 200) || out(first, now.tick, now.tick + 500)) {
            return BAD_VALUE;
        }
        if (now.timers.size() == 6) {
            return TOO_MANY;
        }
        if (now.lines.get(line).level) {
            return NOT_POSSIBLE;
        }
        record();
        T t = new T();
        t.line = now.lines.get(line);
        t.period = period;
        t.next = first;
        now.timers.add(t);
        return now.timers.size() - 1;
    }

    int stop(int timer) {
        if (out(timer, 0, now.timers.size() - 1)) {
            return NO_SUCH;
        }
        record();
        now.timers.remove(timer);
        return now.timers.size();
    }

    int raise(int line) {
        if (noLine(line)) {
            return NO_SUCH;
        }
        if (now.lines.get(line).level) {
            return NOT_POSSIBLE;
        }
        record();
        return now.edge(now.lines.get(line));
    }

    int hold(int line, int device, int up) {
        if (noLine(line)) {
            return NO_SUCH;
        }
        if (out(device, 0, 3) || out(up, 0, 1)) {
            return BAD_VALUE;
        }
        if (!now.lines.get(line).level) {
            return NOT_POSSIBLE;
        }
        record();
        L l = now.lines.get(line);
        if (up == 1) {
            l.holders.add(device);
            if (l.since == null && now.place(l) == NONE) {
                l.since = now.tick;
            }
        } else {
            l.holders.remove(device);
            if (l.holders.isEmpty()) {
                l.since = null;
            }
        }
        return set(l.holders);
    }

    private static int set(Iterable<Integer> bits) {
        int set = 0;
        for (int bit : bits) {
            set += 1 << bit;
        }
        return set;
    }

    int mask(int line, int is) {
        if (noLine(line)) {
            return NO_SUCH;
        }
        if (out(is, 0, 1)) {
            return BAD_VALUE;
        }
        record();
        boolean old = now.lines.get(line).masked;
        now.lines.get(line).masked = is == 1;
        return old ? 1 : 0;
    }

    int change(int line, int rank, int need, int deadline) {
        if (noLine(line)) {
            return NO_SUCH;
        }
        if (out(rank, 0, 15) || out(need, 1, 50) || out(deadline, 0, 500)) {
            return BAD_VALUE;
        }
        record();
        L l = now.lines.get(line);
        int old = l.rank;
        l.rank = rank;
        l.need = need;
        l.deadline = deadline;
        return old;
    }

    int ticks(int ticks) {
        if (out(ticks, 1, 500)) {
            return BAD_VALUE;
        }
        record();
        for (int i = 0; i < ticks; i++) {
            now.step();
        }
        return now.tick;
    }

    int ofLine(int line, int what) {
        if (noLine(line)) {
            return NO_SUCH;
        }
        if (out(what, 0, 16)) {
            return BAD_VALUE;
        }
        L l = now.lines.get(line);
        int[] all = {l.rank, l.need, l.deadline, l.level ? 1 : 0, l.masked ? 1 : 0, l.since != null ? 1 : 0,
            l.since != null ? now.waited(l) : NONE, now.present(l), now.place(l), set(l.holders), l.edges, l.lostEdges,
            l.waits.size(), l.ends, l.waits.stream().mapToInt(w -> w).max().orElse(0),
            l.waits.stream().mapToInt(w -> w).sum(), l.misses};
        return all[what];
    }

    int ofNest(int place, int what) {
        if (out(place, 0, now.nest.size() - 1)) {
            return NO_SUCH;
        }
        S s = now.nest.get(place);
        return out(what, 0, 3) ? BAD_VALUE : new int[] {s.line.number, s.rank, s.left, s.begun}[what];
    }

    int ofTimer(int timer, int what) {
        if (out(timer, 0, now.timers.size() - 1)) {
            return NO_SUCH;
        }
        T t = now.timers.get(timer);
        return out(what, 0, 2) ? BAD_VALUE : new int[] {t.line.number, t.period, t.next}[what];
    }

    int count(int what) {
        if (out(what, 0, 18)) {
            return BAD_VALUE;
        }
        if (what >= 12) {
            return now.settings[what - 12];
        }
        List<Integer> waiting = new ArrayList<>();
        for (L l : now.lines) {
            if (l.since != null) {
                waiting.add(l.number);
            }
        }
        L found = now.found();
        return new int[] {now.tick, now.lines.size(), now.timers.size(), now.nest.size(), set(waiting),
            found == null ? NONE : found.number, now.served, now.deepest, now.misses(), now.interruptions,
            pad.length(), history.size()}[what];
    }

    private static int begins(State trial, int line, int ticks) {
        for (int i = 0; i < ticks; i++) {
            L begun = trial.step();
            if (begun != null && begun.number == line) {
                return i;
            }
        }
        return NONE;
    }

    int beginsIn(int line) {
        return noLine(line) ? NO_SUCH : begins(now.copy(), line, 600);
    }

    int idleIn() {
        State trial = now.copy();
        for (int i = 0; i <= 600; i++) {
            if (trial.nest.isEmpty()) {
                return i;
            }
            trial.step();
        }
        return NONE;
    }

    int missesIn(int ticks) {
        if (out(ticks, 1, 500)) {
            return BAD_VALUE;
        }
        State trial = now.copy();
        for (int i = 0; i < ticks; i++) {
            trial.step();
        }
        return trial.misses() - now.misses();
    }

    int greatestBar(int line, int ticks) {
        if (noLine(line)) {
            return NO_SUCH;
        }
        if (out(ticks, 1, 200)) {
            return BAD_VALUE;
        }
        int greatest = NONE;
        for (int bar = 0; bar <= 31; bar++) {
            State trial = now.copy();
            trial.settings[6] = bar;
            if (begins(trial, line, ticks) != NONE) {
                greatest = bar;
            }
        }
        return greatest;
    }

    int bound(int line) {
        if (noLine(line)) {
            return NO_SUCH;
        }
        L own = now.lines.get(line);
        int b = now.lines.stream().filter(l -> l.rank < own.rank).mapToInt(now::cost).max().orElse(0);
        for (int w = 1; w <= 3000; w++) {
            int sum = b + now.cost(own);
            for (T t : now.timers) {
                if (t.line != own && t.line.rank >= own.rank) {
                    sum += (w % t.period == 0 ? w / t.period : w / t.period + 1) * now.cost(t.line);
                }
            }
            if (sum == w) {
                return w;
            }
        }
        return NONE;
    }

    int load() {
        BigInteger above = BigInteger.ZERO;
        BigInteger below = BigInteger.ONE;
        for (T t : now.timers) {
            BigInteger period = BigInteger.valueOf(t.period);
            above = above.multiply(period).add(below.multiply(BigInteger.valueOf(now.cost(t.line))));
            below = below.multiply(period);
        }
        BigInteger[] parts = above.multiply(BigInteger.valueOf(1000)).divideAndRemainder(below);
        return parts[0].intValueExact() + parts[1].signum();
    }

    int put(long characters) {
        String text = "";
        long rest = characters;
        while ((rest & 255) != 0) {
            text = (char) (rest & 255) + text;
            rest >>>= 8;
        }
        if (rest != 0 || text.isEmpty() || text.chars().anyMatch(c -> c < 33 || c > 126)) {
            return BAD_VALUE;
        }
        if (pad.length() + text.length() > 80) {
            return TOO_MANY;
        }
        pad += text;
        return pad.length();
    }

    int wipe() {
        int length = pad.length();
        pad = "";
        return length;
    }

    int fault() {
        if (TEXT.matcher(pad).matches()) {
            return NONE;
        }
        for (int length = 1; length <= pad.length(); length++) {
            Matcher matcher = TEXT.matcher(pad.substring(0, length));
            if (!matcher.matches() && !matcher.hitEnd()) {
                return length - 1;
            }
        }
        return pad.length();
    }

    int carryOut() {
        if (fault() != NONE) {
            return BAD_TEXT;
        }
        record();
        recording = false;
        int done = 0;
        for (String order : pad.split(";")) {
            if (obey(order) < 0) {
                break;
            }
            done++;
        }
        recording = true;
        pad = "";
        return done;
    }

    private int obey(String order) {
        if (order.startsWith("t")) {
            return ticks(Integer.parseInt(order.substring(1)));
        }
        int line = "ABCDEFGHIJKL".indexOf(order.charAt(1));
        if (order.startsWith("u")) {
            return raise(line);
        }
        if (order.length() == 3) {
            return hold(line, Integer.parseInt(order.substring(2)), order.startsWith("h") ? 1 : 0);
        }
        return mask(line, order.startsWith("m") ? 1 : 0);
    }

    int undo() {
        if (history.isEmpty()) {
            return NOT_POSSIBLE;
        }
        now = history.removeLast();
        return history.size();
    }

    int save(int slot) {
        if (out(slot, 0, 1)) {
            return BAD_VALUE;
        }
        slots[slot] = now.copy();
        return now.tick;
    }

    int restore(int slot) {
        if (out(slot, 0, 1)) {
            return BAD_VALUE;
        }
        if (slots[slot] == null) {
            return NOT_POSSIBLE;
        }
        record();
        now = slots[slot].copy();
        return now.tick;
    }
}
