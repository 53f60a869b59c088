import java.util.ArrayList;
import java.util.List;

/** Each call on each kind of line: fresh, masked, waiting, in the nest, served, late; an edge and a level line. */
public final class KindsTest {
    private static final String[] KINDS = {"fresh", "masked", "waits", "waits masked", "in the nest",
        "in the nest, masked", "in the nest, up again", "up twice", "served", "served late"};
    private static final int FRESH = 0, MASKED = 1, UP = 2, UP_MASKED = 3, IN_NEST = 4, IN_NEST_MASKED = 5,
        IN_NEST_UP_AGAIN = 6, UP_TWICE = 7, SERVED = 8, LATE = 9;
    private static final int NEED = 4, DEADLINE = 3;
    /** The number of what ofLine() tells. */
    private static final int WAITS = 5, WAITED = 6, PRESENT = 7, PLACE = 8, DEVICES = 9, CAME = 10, LOST = 11;
    private static int rank;

    public static void main(String[] args) {
        for (int tried : new int[] {5, 13}) {
            rank = tried;
            linesOfBothKinds();
            eachKindOfOneOrTheOther();
        }
        Due.finish();
    }

    private static void linesOfBothKinds() {
        for (int level = 0; level <= 1; level++) {
            for (int kind = 0; kind < KINDS.length; kind++) {
                changing(kind, level);
                masking(kind, level);
                boundOfItself(kind, level);
                boundsOfOthers(kind, level);
                sums(kind, level);
            }
            serving(level);
            interrupting(level);
            growing(level);
            longestWait(level);
        }
    }

    private static void eachKindOfOneOrTheOther() {
        for (int kind = 0; kind < KINDS.length; kind++) {
            holding(kind);
            holdingAnEdgeLine(kind);
            raising(kind, 1);
            raising(kind, 0);
            raisingALevelLine(kind);
            timing(kind);
            timingALevelLine(kind);
            raisingByTimer(kind, 1);
            raisingByTimer(kind, 0);
        }
    }

    private static void by(String words, int kind, int level) {
        Due.by(words + " (" + (level == 1 ? "level" : "edge") + " line of rank " + rank + ", " + KINDS[kind] + ")");
    }

    /** Line 0 is of this kind; line 1 is an edge line of a lower rank, line 2 a level line of a greater one. */
    private static InterruptInn of(int kind, int level) {
        InterruptInn x = new InterruptInn();
        x.line(rank, NEED, DEADLINE, level);
        x.line(2, 6, 0, 0);
        x.line(rank + 2, 3, 0, 1);
        switch (kind) {
            case MASKED: x.mask(0, 1); break;
            case UP: up(x, 1); break;
            case UP_MASKED: x.mask(0, 1); up(x, 1); x.ticks(25); break;
            case IN_NEST: up(x, 1); x.ticks(2); break;
            case IN_NEST_MASKED: up(x, 1); x.ticks(2); x.mask(0, 1); break;
            case IN_NEST_UP_AGAIN: up(x, 1); x.ticks(2); up(x, 3); break;
            case UP_TWICE: up(x, 1); up(x, 3); break;
            case SERVED: up(x, 1); x.ticks(30); break;
            case LATE: x.mask(0, 1); up(x, 1); x.ticks(9); x.mask(0, 0); x.ticks(30); break;
            default: break;
        }
        return x;
    }

    private static void up(InterruptInn x, int device) {
        if (x.ofLine(0, 3) == 1) {
            x.hold(0, device, 1);
        } else {
            x.raise(0);
        }
    }

    private static List<Integer> line(InterruptInn x) {
        List<Integer> all = new ArrayList<>();
        for (int what = 0; what <= 16; what++) {
            all.add(x.ofLine(0, what));
        }
        return all;
    }

    private static List<Integer> nest(InterruptInn x) {
        List<Integer> all = new ArrayList<>();
        for (int what = 0; what <= 3; what++) {
            all.add(x.ofNest(0, what));
        }
        return all;
    }

    /** What the line is, with what follows from whether it waits. */
    private static List<Integer> waiting(List<Integer> line, boolean waits, int waited) {
        line.set(WAITS, waits ? 1 : 0);
        line.set(WAITED, waits ? waited : Due.NONE);
        line.set(PRESENT, line.get(0) + (waits ? waited / 20 : 0));
        return line;
    }

    private static void changing(int kind, int level) {
        by("Changes the rank, the need and the deadline of a line; .. goes on as it began", kind, level);
        InterruptInn x = of(kind, level);
        List<Integer> want = line(x);
        List<Integer> nest = nest(x);
        Due.due("rank 16", x.change(0, 16, 1, 0), Due.BAD_VALUE);
        Due.due("need 0", x.change(0, 1, 0, 0), Due.BAD_VALUE);
        Due.due("deadline 501", x.change(0, 1, 1, 501), Due.BAD_VALUE);
        Due.due("as it was", line(x), want);
        Due.due("the previous rank", x.change(0, 9, 8, 7), rank);
        want.set(0, 9);
        want.set(1, 8);
        want.set(2, 7);
        Due.due("changed", line(x), waiting(want, want.get(WAITS) == 1, want.get(WAITED)));
        Due.due("the nest", nest(x), nest);
        Due.due("and back", x.change(0, rank, NEED, DEADLINE), 9);
        Due.due("deadline", x.ofLine(0, 2), DEADLINE);
    }

    private static void masking(int kind, int level) {
        by("Masks a line, or takes this back. Returns whether it was masked", kind, level);
        InterruptInn x = of(kind, level);
        List<Integer> want = line(x);
        int masked = want.get(4);
        Due.due("2", x.mask(0, 2), Due.BAD_VALUE);
        Due.due("-1", x.mask(0, -1), Due.BAD_VALUE);
        Due.due("as it was", line(x), want);
        Due.due("mask", x.mask(0, 1), masked);
        want.set(4, 1);
        Due.due("masked", line(x), want);
        Due.due("take it back", x.mask(0, 0), 1);
        want.set(4, 0);
        Due.due("taken back", line(x), want);
    }

    private static void holding(int kind) {
        by("It waits as long as some device holds it up and it is not in the nest", kind, 1);
        InterruptInn x = of(kind, 1);
        List<Integer> want = line(x);
        boolean outside = want.get(PLACE) == Due.NONE;
        Due.due("device 4", x.hold(0, 4, 1), Due.BAD_VALUE);
        Due.due("up 2", x.hold(0, 0, 2), Due.BAD_VALUE);
        Due.due("as it was", line(x), want);
        int set = want.get(DEVICES) | 4;
        Due.due("device 2", x.hold(0, 2, 1), set);
        want.set(DEVICES, set);
        Due.due("held", line(x), waiting(want, outside, want.get(WAITS) == 1 ? want.get(WAITED) : 0));
        x.hold(0, 1, 0);
        x.hold(0, 2, 0);
        Due.due("the last one lets go", x.hold(0, 3, 0), 0);
        want.set(DEVICES, 0);
        Due.due("let go", line(x), waiting(want, false, 0));
        Due.due("held anew", x.hold(0, 0, 1), 1);
        want.set(DEVICES, 1);
        Due.due("waits anew", line(x), waiting(want, outside, 0));
    }

    private static void holdingAnEdgeLine(int kind) {
        by("hold: NOT_POSSIBLE if it is an edge line", kind, 0);
        InterruptInn x = of(kind, 0);
        List<Integer> want = line(x);
        Due.due("up", x.hold(0, 1, 1), Due.NOT_POSSIBLE);
        Due.due("down", x.hold(0, 1, 0), Due.NOT_POSSIBLE);
        Due.due("device 4", x.hold(0, 4, 1), Due.BAD_VALUE);
        Due.due("as it was", line(x), want);
    }

    private static List<Integer> raised(List<Integer> line, int keep) {
        line.set(CAME, line.get(CAME) + 1);
        if (line.get(WAITS) == 1 || (line.get(4) == 1 && keep == 0)) {
            line.set(LOST, line.get(LOST) + 1);
            return line;
        }
        return waiting(line, true, 0);
    }

    private static void raising(int kind, int keep) {
        by("if it waits already, or it is masked and KEEP is 0, this edge is lost (KEEP " + keep + ")", kind, 0);
        InterruptInn x = of(kind, 0);
        x.set(InterruptInn.KEEP, keep);
        List<Integer> want = line(x);
        int lostBefore = want.get(LOST);
        List<Integer> after = raised(want, keep);
        Due.due("raise", x.raise(0), after.get(LOST) > lostBefore ? 0 : 1);
        Due.due("raised", line(x), after);
    }

    private static void raisingALevelLine(int kind) {
        by("raise: NOT_POSSIBLE if it is a level line", kind, 1);
        InterruptInn x = of(kind, 1);
        List<Integer> want = line(x);
        Due.due("raise", x.raise(0), Due.NOT_POSSIBLE);
        Due.due("as it was", line(x), want);
    }

    private static void timing(int kind) {
        by("Makes a timer of an edge line", kind, 0);
        InterruptInn x = of(kind, 0);
        List<Integer> want = line(x);
        int now = x.count(0);
        Due.due("period 0", x.timer(0, 0, now), Due.BAD_VALUE);
        Due.due("first too late", x.timer(0, 9, now + 501), Due.BAD_VALUE);
        for (int timer = 0; timer < 6; timer++) {
            Due.due("timer", x.timer(0, 9, now + timer), timer);
            Due.due("its line", x.ofTimer(timer, 0), 0);
            Due.due("its period", x.ofTimer(timer, 1), 9);
            Due.due("its tick", x.ofTimer(timer, 2), now + timer);
        }
        Due.due("one more", x.timer(0, 9, now), Due.TOO_MANY);
        Due.due("six", x.count(2), 6);
        Due.due("the line is as it was", line(x), want);
    }

    private static void timingALevelLine(int kind) {
        by("timer: NOT_POSSIBLE if it is a level line", kind, 1);
        InterruptInn x = of(kind, 1);
        Due.due("timer", x.timer(0, 9, x.count(0)), Due.NOT_POSSIBLE);
        Due.due("period 0", x.timer(0, 0, x.count(0)), Due.BAD_VALUE);
        Due.due("none", x.count(2), 0);
    }

    private static void raisingByTimer(int kind, int keep) {
        by("An edge line is raised by raise(), or by a timer (KEEP " + keep + ")", kind, 0);
        InterruptInn x = of(kind, 0);
        InterruptInn y = of(kind, 0);
        x.set(InterruptInn.KEEP, keep);
        y.set(InterruptInn.KEEP, keep);
        x.timer(0, 50, x.count(0));
        y.raise(0);
        x.ticks(1);
        y.ticks(1);
        Due.due("the same line", line(x), line(y));
        Due.due("the same nest", nest(x), nest(y));
        Due.due("its next tick", x.ofTimer(0, 2), x.count(0) + 49);
    }

    private static void boundOfItself(int kind, int level) {
        by("bound: the least w of 1 to 3000 for which w = b + c + s", kind, level);
        InterruptInn x = of(kind, level);
        Due.due("7 + 5", x.bound(0), 12);
        x.change(1, rank, 6, 0);
        x.timer(1, 10, x.count(0) + 400);
        Due.due("5 + 7 * 2", x.bound(0), 19);
        x.stop(0);
        x.timer(1, 7, x.count(0) + 400);
        Due.due("5 + 7 * w / 7", x.bound(0), Due.NONE);
    }

    private static void boundsOfOthers(int kind, int level) {
        by("bound: b is the greatest cost of the lines whose rank is below; s is the sum", kind, level);
        InterruptInn x = of(kind, level);
        x.change(0, rank, 10, 0);
        Due.due("4 + 11", x.bound(2), 15);
        if (level == 0) {
            x.timer(0, 25, x.count(0) + 400);
            Due.due("7 + 11", x.bound(1), 18);
            Due.due("load 11 of 25", x.load(), 440);
            x.change(0, 1, 10, 0);
            Due.due("7 + 11, of a lower rank, whose timer does not count", x.bound(1), 18);
            x.change(1, 2, 20, 0);
            Due.due("21 + 11", x.bound(1), 32);
        }
    }

    private static void sums(int kind, int level) {
        by("count: 3 services in the nest, 4 the set of lines that wait, 8 misses of all lines", kind, level);
        InterruptInn x = of(kind, level);
        Due.due("in the nest", x.count(3), x.ofLine(0, PLACE) == 0 ? 1 : 0);
        Due.due("waits", x.count(4), x.ofLine(0, WAITS));
        Due.due("misses", x.count(8), kind == LATE ? 1 : 0);
        Due.due("interruptions", x.count(9), 0);
        Due.due("deepest", x.count(7), x.ofLine(0, 12) > 0 ? 1 : 0);
        x.mask(0, 1);
        Due.due("misses of a masked line", x.count(8), kind == LATE ? 1 : 0);
    }

    private static void serving(int level) {
        for (int kind = IN_NEST; kind <= IN_NEST_UP_AGAIN; kind++) {
            by("The service on top of the nest gets one tick; count: 6 ticks .. served", kind, level);
            InterruptInn x = of(kind, level);
            Due.due("after 2 ticks", x.count(6), 2);
            Due.due("5 - 2", x.ofNest(0, 2), 3);
            x.ticks(1);
            Due.due("after 3 ticks", x.count(6), 3);
            Due.due("5 - 3", x.ofNest(0, 2), 2);
            x.ticks(2);
            Due.due("ended", x.ofLine(0, 13), 1);
            Due.due("all of its ticks", x.count(6), 5);
        }
    }

    private static void interrupting(int level) {
        for (int kind : new int[] {FRESH, SERVED, LATE}) {
            by("its service comes on top of the nest; count: 7 the deepest nest, 9 ..", kind, level);
            InterruptInn x = of(kind, level);
            x.raise(1);
            x.ticks(1);
            up(x, 0);
            Due.due("found", x.count(5), 0);
            Due.due("begins in", x.beginsIn(0), 0);
            int began = x.count(0);
            x.ticks(1);
            Due.due("on top", List.of(x.ofNest(1, 0), x.ofNest(1, 1), x.ofNest(1, 2), x.ofNest(1, 3)),
                List.of(0, rank, NEED, began));
            Due.due("deepest", x.count(7), 2);
            Due.due("interrupted", x.count(9), 1);
            x.hold(2, 0, 1);
            x.ticks(1);
            Due.due("deepest with line 2", x.count(7), 3);
            Due.due("interrupted twice", x.count(9), 2);
            up(x, 1);
            Due.due("line 1 is in the nest, and is not raised again", x.beginsIn(1), Due.NONE);
        }
    }

    private static void growing(int level) {
        by("1 more for each AGE ticks that it has waited, but at most CAP", UP_MASKED, level);
        InterruptInn x = of(UP_MASKED, level);
        Due.due("25 of 20", x.ofLine(0, PRESENT), rank + 1);
        x.set(InterruptInn.AGE, 5);
        Due.due("25 of 5", x.ofLine(0, PRESENT), rank + 5);
        x.set(InterruptInn.CAP, rank + 2);
        Due.due("CAP 2 above the rank", x.ofLine(0, PRESENT), rank + 2);
        x.set(InterruptInn.CAP, rank);
        Due.due("CAP at the rank", x.ofLine(0, PRESENT), rank);
        x.set(InterruptInn.CAP, rank - 1);
        Due.due("CAP below the rank", x.ofLine(0, PRESENT), rank);
        x.set(InterruptInn.CAP, 31);
        x.set(InterruptInn.AGE, 0);
        Due.due("AGE 0", x.ofLine(0, PRESENT), rank);
    }

    private static void longestWait(int level) {
        by("14 the longest wait ahead of a service that began, 15 all these waits together, 16 misses", LATE, level);
        InterruptInn x = of(LATE, level);
        Due.due("longest", x.ofLine(0, 14), 9);
        up(x, 2);
        x.ticks(30);
        Due.due("two services", x.ofLine(0, 12), 2);
        Due.due("longest still", x.ofLine(0, 14), 9);
        Due.due("together", x.ofLine(0, 15), 9);
        Due.due("one was late", x.ofLine(0, 16), 1);
        x.mask(0, 1);
        up(x, 2);
        x.ticks(11);
        x.mask(0, 0);
        x.ticks(30);
        Due.due("longest now", x.ofLine(0, 14), 11);
        Due.due("together now", x.ofLine(0, 15), 20);
        Due.due("two were late", x.ofLine(0, 16), 2);
    }
}
