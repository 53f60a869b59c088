import java.util.function.ToIntFunction;

/** Promises 15 to 20: the first and the last tick that counts, no line, no timer, bounds and loads at their edges. */
public final class ForecastEdgesTest {
    public static void main(String[] args) {
        beginsInNoSuch();
        beginsInTheNextTick();
        beginsInTheLastTick();
        beginsNever();
        beginsAnew();
        beginsByTimersAlone();
        idleNow();
        idleInOneTick();
        idleInTheLastTick();
        idleNever();
        missesInRange();
        missesInOneTick();
        missesInTheLastTick();
        missesThatWereAreNoneOfThem();
        missesOfNothing();
        greatestBarErrors();
        greatestBarEnds();
        greatestBarInTheLastTick();
        greatestBarAboveOneThatDoesNot();
        greatestBarOfNone();
        boundNoSuch();
        boundWithoutTimers();
        boundOfLowerRanks();
        boundOfLowerRanksOfAllKinds();
        boundOfOtherTimers();
        boundRoundedUp();
        boundIsTheLeast();
        boundOf3000();
        boundOfNone();
        loadOfNothing();
        loadRoundedUp();
        loadExactlySummed();
        greatLoad();
        nothingChanges();
        Due.finish();
    }

    private static void beginsInNoSuch() {
        Due.by("beginsIn: NO_SUCH if there is no such line");
        Due.due("a new object", new InterruptInn().beginsIn(0), Due.NO_SUCH);
        InterruptInn x = Due.with(1);
        x.raise(0);
        Due.due("-1", x.beginsIn(-1), Due.NO_SUCH);
        Due.due("the last one", x.beginsIn(0), 0);
        Due.due("as many as there are", x.beginsIn(1), Due.NO_SUCH);
    }

    private static void beginsInTheNextTick() {
        Due.by("beginsIn: how many ticks have passed by then, without the one in which it begins (0: the next)");
        InterruptInn x = Due.with(1, 1);
        x.raise(0);
        x.raise(1);
        Due.due("in the next tick", x.beginsIn(0), 0);
        Due.due("behind the six ticks of the other one", x.beginsIn(1), 6);
        x.ticks(6);
        Due.due("six ticks later", x.beginsIn(1), 0);
        InterruptInn y = Due.with(1);
        y.timer(0, 9, 0);
        Due.due("a timer that is due now", y.beginsIn(0), 0);
        y.ticks(7);
        Due.due("due again in the tick 9", y.beginsIn(0), 2);
    }

    /** Line 0 waits, and begins when it has waited 100 ticks for each rank up to the bar. */
    private static InterruptInn slow(int bar, int deadline) {
        InterruptInn x = new InterruptInn();
        x.line(0, 5, deadline, 0);
        x.set(InterruptInn.AGE, 100);
        x.set(InterruptInn.CAP, 31);
        x.set(InterruptInn.BAR, bar);
        x.raise(0);
        return x;
    }

    private static void beginsInTheLastTick() {
        Due.by("beginsIn: NONE if none begins in the next 600 ticks");
        InterruptInn x = slow(6, 0);
        Due.due("in the tick after 600", x.beginsIn(0), Due.NONE);
        x.ticks(1);
        Due.due("in the last one of 600", x.beginsIn(0), 599);
        x.ticks(1);
        Due.due("in the last one but one", x.beginsIn(0), 598);
        x.ticks(500);
        Due.due("later", x.beginsIn(0), 98);
        x.ticks(98);
        Due.due("in the next one", x.beginsIn(0), 0);
        Due.due("not begun yet", x.ofLine(0, 12), 0);
        x.ticks(1);
        Due.due("begun", x.ofLine(0, 12), 1);
    }

    private static void beginsNever() {
        Due.by("beginsIn: NONE if none begins");
        InterruptInn x = Due.with(1);
        x.line(1, 5, 0, 1);
        Due.due("no timer", x.beginsIn(0), Due.NONE);
        Due.due("no device", x.beginsIn(1), Due.NONE);
        x.raise(0);
        x.mask(0, 1);
        Due.due("masked", x.beginsIn(0), Due.NONE);
        x.mask(0, 0);
        x.set(InterruptInn.BAR, 31);
        Due.due("below BAR for ever", x.beginsIn(0), Due.NONE);
    }

    private static void beginsAnew() {
        Due.by("beginsIn: when a service of a line begins next");
        InterruptInn x = Due.with(1);
        x.raise(0);
        x.ticks(1);
        Due.due("the one in the nest has begun", x.beginsIn(0), Due.NONE);
        x.raise(0);
        Due.due("the next one", x.beginsIn(0), 5);
        InterruptInn y = new InterruptInn();
        y.line(1, 5, 0, 1);
        y.hold(0, 1, 1);
        y.hold(0, 2, 1);
        Due.due("the first device", y.beginsIn(0), 0);
        y.ticks(1);
        Due.due("the second device", y.beginsIn(0), 5);
        y.ticks(6);
        Due.due("there is no third one", y.beginsIn(0), Due.NONE);
    }

    private static void beginsByTimersAlone() {
        Due.by("if only timers raise lines");
        InterruptInn x = Due.with(1, 1);
        x.timer(0, 100, 30);
        Due.due("its timer", x.beginsIn(0), 30);
        Due.due("none of its own", x.beginsIn(1), Due.NONE);
        x.mask(0, 1);
        x.set(InterruptInn.KEEP, 0);
        Due.due("masked", x.beginsIn(0), Due.NONE);
        x.mask(0, 0);
        x.stop(0);
        Due.due("stopped", x.beginsIn(0), Due.NONE);
        x.timer(0, 100, 500);
        Due.due("500 later", x.beginsIn(0), 500);
    }

    private static void idleNow() {
        Due.by("idleIn: Returns how many ticks (0 if it is so now)");
        InterruptInn x = new InterruptInn();
        Due.due("no line", x.idleIn(), 0);
        x.line(1, 5, 0, 0);
        x.timer(0, 1, 0);
        Due.due("a timer that is due", x.idleIn(), 0);
        x.raise(0);
        Due.due("a line that waits", x.idleIn(), 0);
        x.ticks(1);
        Due.due("begun", x.idleIn(), 5);
        x.stop(0);
        x.ticks(5);
        Due.due("ended", x.idleIn(), 0);
    }

    private static void idleInOneTick() {
        Due.by("idleIn: after how many ticks nothing is in the nest");
        InterruptInn x = Due.with(1);
        x.raise(0);
        x.ticks(1);
        for (int left = 5; left >= 0; left--) {
            Due.due("left", x.idleIn(), left);
            x.ticks(1);
        }
        InterruptInn y = Due.with(1, 2);
        y.raise(0);
        y.ticks(1);
        y.raise(1);
        Due.due("one above it that waits", y.idleIn(), 11);
        y.ticks(1);
        Due.due("both in the nest", y.idleIn(), 10);
        InterruptInn z = Due.with(1, 1);
        z.raise(0);
        z.ticks(1);
        z.raise(1);
        Due.due("between it and the next one", z.idleIn(), 5);
    }

    /** Seven services in the nest take 406 ticks, the eighth line's timer 177 above them, the ninth the last ones. */
    private static InterruptInn deep(int lastNeed) {
        InterruptInn x = new InterruptInn();
        for (int line = 0; line < 8; line++) {
            x.line(line, 50, 0, 0);
        }
        x.line(8, lastNeed, 0, 0);
        x.set(InterruptInn.SWITCH, 9);
        x.set(InterruptInn.DEEPEST, 8);
        for (int line = 0; line < 7; line++) {
            x.raise(line);
            x.ticks(1);
        }
        x.raise(8);
        x.timer(7, 200, 8);
        return x;
    }

    private static void idleInTheLastTick() {
        Due.by("idleIn: NONE if it is not so within 600 ticks");
        Due.due("599", deep(7).idleIn(), 599);
        Due.due("600", deep(8).idleIn(), 600);
        InterruptInn x = deep(9);
        Due.due("601", x.idleIn(), Due.NONE);
        x.ticks(1);
        Due.due("601, a tick later", x.idleIn(), 600);
        x.ticks(500);
        Due.due("later", x.idleIn(), 100);
        x.ticks(100);
        Due.due("so it is", x.count(3), 0);
    }

    private static void idleNever() {
        Due.by("idleIn: NONE if it is not so");
        InterruptInn x = new InterruptInn();
        x.line(1, 50, 0, 0);
        x.line(9, 9, 0, 0);
        x.raise(0);
        x.ticks(1);
        x.timer(1, 10, 1);
        Due.due("one below that gets no tick", x.idleIn(), Due.NONE);
        x.mask(1, 1);
        Due.due("masked", x.idleIn(), 50);
    }

    private static void missesInRange() {
        Due.by("missesIn: ticks: 1 to 500; BAD_VALUE if ticks is out of range");
        InterruptInn x = Due.with(1);
        Due.due("-1", x.missesIn(-1), Due.BAD_VALUE);
        Due.due("0", x.missesIn(0), Due.BAD_VALUE);
        Due.due("1", x.missesIn(1), 0);
        Due.due("500", x.missesIn(500), 0);
        Due.due("501", x.missesIn(501), Due.BAD_VALUE);
    }

    private static void missesInOneTick() {
        Due.by("missesIn: how many misses there would be in the next ticks (1)");
        InterruptInn x = slow(1, 9);
        x.ticks(99);
        Due.due("in the tick after it", x.missesIn(1), 0);
        Due.due("in the next two", x.missesIn(2), 1);
        x.ticks(1);
        Due.due("in the next one", x.missesIn(1), 1);
        Due.due("none so far", x.count(8), 0);
        x.ticks(1);
        Due.due("it was one", x.count(8), 1);
    }

    private static void missesInTheLastTick() {
        Due.by("missesIn: how many misses there would be in the next ticks (500)");
        InterruptInn x = slow(5, 9);
        Due.due("in the tick after 500", x.missesIn(500), 0);
        x.ticks(1);
        Due.due("in the last one of 500", x.missesIn(500), 1);
        Due.due("not in 499", x.missesIn(499), 0);
    }

    private static void missesThatWereAreNoneOfThem() {
        Due.by("missesIn: how many misses there would be in the next ticks (some were)");
        InterruptInn x = slow(1, 9);
        x.timer(0, 150, 300);
        x.ticks(200);
        Due.due("one was", x.count(8), 1);
        Due.due("in the next 200", x.missesIn(200), 0);
        Due.due("in the next 201", x.missesIn(201), 1);
        Due.due("in the next 500", x.missesIn(500), 2);
        x.ticks(500);
        Due.due("so they were", x.count(8), 3);
    }

    private static void missesOfNothing() {
        Due.by("missesIn: if only timers raise lines");
        Due.due("no line", new InterruptInn().missesIn(500), 0);
        InterruptInn x = new InterruptInn();
        x.line(1, 5, 1, 0);
        x.mask(0, 1);
        x.raise(0);
        x.ticks(400);
        Due.due("a line that does not begin", x.missesIn(500), 0);
        x.mask(0, 0);
        Due.due("it begins", x.missesIn(1), 1);
        x.change(0, 1, 5, 0);
        Due.due("it has no deadline", x.missesIn(1), 0);
    }

    private static void greatestBarErrors() {
        Due.by("greatestBar: ticks: 1 to 200; NO_SUCH if there is no such line; BAD_VALUE if ticks is out of range");
        Due.due("a new object", new InterruptInn().greatestBar(0, 1), Due.NO_SUCH);
        InterruptInn x = Due.with(4);
        x.raise(0);
        Due.due("line -1", x.greatestBar(-1, 1), Due.NO_SUCH);
        Due.due("as many as there are", x.greatestBar(1, 1), Due.NO_SUCH);
        Due.due("-1", x.greatestBar(0, -1), Due.BAD_VALUE);
        Due.due("0", x.greatestBar(0, 0), Due.BAD_VALUE);
        Due.due("1", x.greatestBar(0, 1), 4);
        Due.due("200", x.greatestBar(0, 200), 13);
        Due.due("201", x.greatestBar(0, 201), Due.BAD_VALUE);
    }

    private static void greatestBarEnds() {
        Due.by("greatestBar: Returns the bar, 0 to 31");
        InterruptInn x = Due.with(0, 15);
        x.raise(0);
        Due.due("0", x.greatestBar(0, 1), 0);
        x.set(InterruptInn.AGE, 1);
        x.set(InterruptInn.CAP, 31);
        x.raise(1);
        Due.due("30", x.greatestBar(1, 16), 30);
        Due.due("31", x.greatestBar(1, 17), 31);
        Due.due("31 is the greatest", x.greatestBar(1, 200), 31);
        x.set(InterruptInn.CAP, 30);
        Due.due("CAP", x.greatestBar(1, 200), 30);
    }

    private static void greatestBarInTheLastTick() {
        Due.by("greatestBar: with which a service of a line still begins in the next ticks");
        InterruptInn x = slow(31, 0);
        Due.due("rank 2 in the tick after 200", x.greatestBar(0, 200), 1);
        x.ticks(1);
        Due.due("rank 2 in the last one of 200", x.greatestBar(0, 200), 2);
        Due.due("not in 199", x.greatestBar(0, 199), 1);
        x.ticks(98);
        Due.due("rank 1 in the tick after the next", x.greatestBar(0, 1), 0);
        x.ticks(1);
        Due.due("rank 1 in the next one", x.greatestBar(0, 1), 1);
        Due.due("BAR is as it was", x.count(18), 31);
    }

    private static void greatestBarAboveOneThatDoesNot() {
        Due.by("greatestBar: the greatest BAR with which a service .. still begins (with a lower one it does not)");
        InterruptInn x = Due.with(3, 5);
        x.set(InterruptInn.GAP, 9);
        x.raise(0);
        x.timer(1, 200, 1);
        Due.due("5: the other line is kept away", x.greatestBar(1, 4), 5);
        x.set(InterruptInn.BAR, 3);
        Due.due("with 3 the other line is ahead", x.beginsIn(1), 6);
        x.set(InterruptInn.BAR, 4);
        Due.due("with 4 it is not", x.beginsIn(1), 1);
        x.set(InterruptInn.BAR, 5);
        Due.due("with 5 it is not", x.beginsIn(1), 1);
    }

    private static void greatestBarOfNone() {
        Due.by("greatestBar: NONE if there is none");
        InterruptInn x = Due.with(4);
        Due.due("does not wait", x.greatestBar(0, 200), Due.NONE);
        x.timer(0, 100, 5);
        Due.due("its timer comes too late", x.greatestBar(0, 5), Due.NONE);
        Due.due("its timer comes in time", x.greatestBar(0, 6), 4);
        x.mask(0, 1);
        Due.due("masked", x.greatestBar(0, 200), Due.NONE);
        InterruptInn y = Due.with(4, 3);
        y.raise(0);
        y.ticks(1);
        y.raise(1);
        Due.due("behind the other one, with no bar", y.greatestBar(1, 5), Due.NONE);
        Due.due("behind the other one", y.greatestBar(1, 6), 3);
        Due.due("in the nest", y.greatestBar(0, 200), Due.NONE);
    }

    private static InterruptInn bare(int... ranksAndNeeds) {
        InterruptInn x = new InterruptInn();
        x.set(InterruptInn.SWITCH, 0);
        for (int i = 0; i + 1 < ranksAndNeeds.length; i += 2) {
            x.line(ranksAndNeeds[i], ranksAndNeeds[i + 1], 0, 0);
        }
        return x;
    }

    private static void boundNoSuch() {
        Due.by("bound: NO_SUCH if there is no such line");
        Due.due("a new object", new InterruptInn().bound(0), Due.NO_SUCH);
        InterruptInn x = Due.with(4);
        Due.due("-1", x.bound(-1), Due.NO_SUCH);
        Due.due("the last one", x.bound(0), 6);
        Due.due("as many as there are", x.bound(1), Due.NO_SUCH);
    }

    private static void boundWithoutTimers() {
        Due.by("bound: the least w of 1 to 3000 (1). The cost of a line is its need and SWITCH");
        InterruptInn x = bare(3, 1);
        Due.due("no timer, need 1", x.bound(0), 1);
        x.set(InterruptInn.SWITCH, 9);
        Due.due("SWITCH 9", x.bound(0), 10);
        x.timer(0, 1, 0);
        Due.due("a timer of its own", x.bound(0), 10);
        x.change(0, 3, 50, 0);
        Due.due("need 50", x.bound(0), 59);
    }

    private static void boundOfLowerRanks() {
        Due.by("bound: b is the greatest cost of the lines whose rank is below .. this one (0 if there is none)");
        InterruptInn x = bare(2, 10, 5, 1, 1, 40, 5, 50, 2, 30, 9, 50);
        Due.due("none is below", x.bound(2), 40);
        Due.due("one is below", x.bound(0), 10 + 40);
        Due.due("it and another one of the same rank", x.bound(4), 30 + 40);
        Due.due("three are below", x.bound(1), 1 + 40);
        x.change(2, 5, 40, 0);
        Due.due("the last one of them", x.bound(1), 1 + 30);
        x.change(4, 5, 30, 0);
        Due.due("the first line", x.bound(1), 1 + 10);
        x.change(0, 5, 10, 0);
        Due.due("none is below, five have the same rank", x.bound(1), 1);
        x.set(InterruptInn.SWITCH, 2);
        Due.due("SWITCH counts for both", x.bound(5), 52 + 52);
    }

    private static void boundOfLowerRanksOfAllKinds() {
        Due.by("bound: b is the greatest cost of the lines whose rank is below (masked, level, in the nest, ..)");
        InterruptInn x = bare(5, 1, 1, 9);
        x.mask(1, 1);
        Due.due("a masked line", x.bound(0), 1 + 9);
        x.line(2, 20, 0, 1);
        Due.due("a level line", x.bound(0), 1 + 20);
        x.hold(2, 0, 1);
        Due.due("that waits", x.bound(0), 1 + 20);
        x.ticks(3);
        Due.due("in the nest", x.ofNest(0, 0), 2);
        Due.due("with all of its need", x.bound(0), 1 + 20);
        x.line(3, 30, 500, 0);
        x.timer(3, 100, 400);
        Due.due("a line with a timer", x.bound(0), 1 + 30);
        x.mask(0, 1);
        Due.due("for a masked line", x.bound(0), 1 + 30);
        x.mask(0, 0);
        x.raise(0);
        Due.due("for a line that waits", x.bound(0), 1 + 30);
        x.ticks(1);
        Due.due("which has its service", x.ofLine(0, 13), 1);
        Due.due("for a line that has had a service", x.bound(0), 1 + 30);
        Due.due("for a level line", x.bound(2), 20 + 9 + 30);
    }

    private static void boundOfOtherTimers() {
        Due.by("bound: over all timers of other lines whose rank is at least the rank of this one");
        InterruptInn x = bare(5, 10, 5, 3, 6, 4, 4, 1);
        Due.due("no timer", x.bound(0), 11);
        x.timer(0, 50, 0);
        Due.due("its own", x.bound(0), 11);
        x.timer(3, 50, 0);
        Due.due("of a lower rank", x.bound(0), 11);
        x.timer(1, 50, 400);
        Due.due("of the same rank", x.bound(0), 14);
        x.timer(2, 50, 400);
        Due.due("of a greater rank", x.bound(0), 18);
        x.timer(2, 40, 400);
        Due.due("a second one of the same line", x.bound(0), 22);
        x.mask(2, 1);
        Due.due("masked or not", x.bound(0), 22);
        x.stop(4);
        Due.due("stopped", x.bound(0), 18);
    }

    private static void boundRoundedUp() {
        Due.by("bound: (w divided by the period, rounded up)");
        InterruptInn x = bare(5, 6, 6, 4);
        x.timer(1, 10, 0);
        Due.due("10 of 10 are one", x.bound(0), 10);
        x.change(0, 5, 7, 0);
        Due.due("11 of 10 are two", x.bound(0), 15);
        x.change(0, 5, 12, 0);
        Due.due("20 of 10 are two", x.bound(0), 20);
        x.change(0, 5, 13, 0);
        Due.due("21 of 10 are three", x.bound(0), 25);
    }

    private static void boundIsTheLeast() {
        Due.by("bound: the least w .. for which w = b + c + s");
        InterruptInn x = bare(5, 1, 6, 1);
        x.timer(1, 2, 0);
        Due.due("2 = 1 + 1, and 3 = 1 + 2", x.bound(0), 2);
        InterruptInn y = bare(5, 2, 6, 1);
        y.timer(1, 2, 0);
        Due.due("4 = 2 + 2, and 5 = 2 + 3", y.bound(0), 4);
    }

    private static void boundOf3000() {
        Due.by("bound: the least w of 1 to 3000 (3000)");
        InterruptInn x = bare(3, 50, 5, 49, 1, 10);
        x.timer(1, 50, 0);
        Due.due("3000 = 10 + 50 + 60 * 49", x.bound(0), 3000);
        x.change(2, 1, 9, 0);
        Due.due("2950 = 9 + 50 + 59 * 49", x.bound(0), 2950);
        x.change(2, 1, 11, 0);
        Due.due("3050 = 11 + 50 + 61 * 49", x.bound(0), Due.NONE);
        InterruptInn y = bare(3, 50, 5, 50, 6, 49, 1, 50);
        // With one timer of 50 in 52 and 100 before it: w = 100 + 50 * ceil(w / 52) ends at 2600.
        y.timer(1, 52, 0);
        Due.due("2600 = 50 + 50 + 50 * 50", y.bound(0), 2600);
        InterruptInn z = bare(3, 49, 5, 40, 6, 37, 1, 26);
        z.timer(1, 79, 0);
        z.timer(2, 79, 0);
        Due.due("3001 = 26 + 49 + 38 * 77", z.bound(0), Due.NONE);
        z.change(3, 1, 25, 0);
        Due.due("2923 = 25 + 49 + 37 * 77", z.bound(0), 2923);
    }

    private static void boundOfNone() {
        Due.by("bound: NONE if there is no such w");
        InterruptInn x = bare(5, 1, 6, 1);
        x.timer(1, 1, 0);
        Due.due("w = 1 + w", x.bound(0), Due.NONE);
        Due.due("the other one", x.bound(1), 2);
        InterruptInn y = bare(5, 1, 6, 50);
        for (int timer = 0; timer < 6; timer++) {
            y.timer(1, 1, 0);
        }
        Due.due("w = 1 + 300 w", y.bound(0), Due.NONE);
        y.set(InterruptInn.SWITCH, 9);
        Due.due("w = 10 + 354 w", y.bound(0), Due.NONE);
    }

    private static void loadOfNothing() {
        Due.by("load: the sum over all timers (none)");
        Due.due("no line", new InterruptInn().load(), 0);
        InterruptInn x = bare(1, 50);
        Due.due("no timer", x.load(), 0);
        x.timer(0, 1, 0);
        x.stop(0);
        Due.due("stopped", x.load(), 0);
    }

    private static void loadRoundedUp() {
        Due.by("load: rounded up");
        InterruptInn x = bare(1, 1);
        x.timer(0, 3, 0);
        Due.due("333.3..", x.load(), 334);
        x.timer(0, 3, 0);
        Due.due("666.6..", x.load(), 667);
        x.timer(0, 3, 0);
        Due.due("1000 exactly", x.load(), 1000);
        InterruptInn y = bare(1, 1);
        y.timer(0, 8, 0);
        Due.due("125 exactly", y.load(), 125);
        y.timer(0, 200, 0);
        Due.due("130 exactly", y.load(), 130);
        y.timer(0, 199, 0);
        Due.due("135.02..", y.load(), 136);
        y.mask(0, 1);
        Due.due("masked or not", y.load(), 136);
        y.set(InterruptInn.SWITCH, 1);
        Due.due("twice 135.02.. is 270.05..", y.load(), 271);
    }

    private static void loadExactlySummed() {
        Due.by("load: exactly summed");
        InterruptInn x = bare(1, 1);
        for (int timer = 0; timer < 6; timer++) {
            x.timer(0, 6, 0);
        }
        Due.due("six sixths", x.load(), 1000);
        InterruptInn y = bare(1, 1);
        int[] periods = {2, 3, 7, 42, 200, 200};
        for (int period : periods) {
            y.timer(0, period, 0);
        }
        Due.due("1/2 + 1/3 + 1/7 + 1/42 = 1, and 2/200", y.load(), 1010);
        InterruptInn z = bare(1, 1);
        int[] primes = {199, 197, 193, 191, 181, 179};
        for (int prime : primes) {
            z.timer(0, prime, 0);
        }
        Due.due("31.63..", z.load(), 32);
        InterruptInn w = bare(1, 7);
        int[] twelfths = {12, 7, 42};
        for (int period : twelfths) {
            w.timer(0, period, 0);
        }
        Due.due("1750 exactly, which parts of a double would not be", w.load(), 1750);
        InterruptInn v = bare(1, 1, 1, 27, 1, 6, 1, 31, 1, 19, 1, 43);
        int[] periods173 = {199, 197, 193, 191, 181, 173};
        for (int line = 0; line < 6; line++) {
            v.timer(line, periods173[line], 0);
        }
        Due.due("689.00000000001..", v.load(), 690);
    }

    private static void greatLoad() {
        Due.by("load: 1000 times the sum (a great one)");
        InterruptInn x = bare(1, 50);
        x.set(InterruptInn.SWITCH, 9);
        for (int timer = 1; timer <= 6; timer++) {
            x.timer(0, 1, 0);
            Due.due("timers " + timer, x.load(), 59000 * timer);
        }
        InterruptInn y = bare(1, 50);
        y.set(InterruptInn.SWITCH, 9);
        for (int timer = 1; timer <= 6; timer++) {
            y.timer(0, 200, 0);
            Due.due("timers " + timer, y.load(), 295 * timer);
        }
        InterruptInn z = bare(1, 50);
        z.set(InterruptInn.SWITCH, 9);
        z.timer(0, 1, 0);
        for (int timer = 0; timer < 5; timer++) {
            z.timer(0, 199, 0);
        }
        Due.due("59000 and 1482.4..", z.load(), 60483);
    }

    private static void nothingChanges() {
        unchanged("beginsIn(2)", x -> x.beginsIn(2));
        unchanged("beginsIn(3), which is NONE", x -> x.beginsIn(3));
        unchanged("idleIn()", x -> x.idleIn());
        unchanged("missesIn(500)", x -> x.missesIn(500));
        unchanged("greatestBar(2, 200)", x -> x.greatestBar(2, 200));
        unchanged("greatestBar(3, 200), which is NONE", x -> x.greatestBar(3, 200));
        unchanged("bound(0)", x -> x.bound(0));
        unchanged("load()", x -> x.load());
    }

    private static void unchanged(String call, ToIntFunction<InterruptInn> forecast) {
        Due.by("what if; nothing changes: " + call);
        InterruptInn x = Due.busy();
        InterruptInn untouched = Due.busy();
        Due.write(x, "uA;t3");
        Due.write(untouched, "uA;t3");
        int answer = forecast.applyAsInt(x);
        Due.due("no error", answer >= 0 || answer == Due.NONE ? 1 : 0, 1);
        Due.due("seen", Due.seenWithAll(x), Due.seenWithAll(untouched));
        Due.due("asked again", forecast.applyAsInt(x), answer);
        Due.due("undo", x.undo(), untouched.undo());
        Due.due("undone", Due.seenWithAll(x), Due.seenWithAll(untouched));
        Due.due("nothing is saved by it", x.restore(0), Due.NOT_POSSIBLE);
        Due.due("carryOut", x.carryOut(), untouched.carryOut());
        x.ticks(100);
        untouched.ticks(100);
        Due.due("later", Due.seenWithAll(x), Due.seenWithAll(untouched));
    }
}
