import java.util.List;

/** Promises 15 to 20: beginsIn, idleIn, missesIn, greatestBar, bound, load. */
public final class ForecastTest {
    public static void main(String[] args) {
        begins();
        beginsEdges();
        idle();
        idleEdges();
        idleIn600();
        missing();
        bars();
        barsAreNoOrder();
        bounds();
        boundNone();
        loads();
        nothingChanges();
        forecastsComeTrue();
        Due.finish();
    }

    private static void begins() {
        InterruptInn x = new InterruptInn();
        x.line(3, 4, 0, 0);
        x.line(3, 4, 0, 0);
        x.line(5, 2, 0, 1);
        Due.due("nothing raises it", x.beginsIn(0), Due.NONE);
        x.raise(0);
        x.raise(1);
        Due.due("in the next tick", x.beginsIn(0), 0);
        Due.due("behind it", x.beginsIn(1), 5);
        x.hold(2, 1, 1);
        x.hold(2, 3, 1);
        Due.due("level line is ahead", x.beginsIn(2), 0);
        Due.due("behind both devices", x.beginsIn(0), 6);
        x.ticks(1);
        Due.due("begun: the next service", x.beginsIn(2), 2);
        Due.due("no such", x.beginsIn(3), Due.NO_SUCH);
        for (int odd : Due.ODD) {
            Due.due("odd", x.beginsIn(odd), Due.NO_SUCH);
        }
    }

    private static void beginsEdges() {
        InterruptInn x = new InterruptInn();
        x.line(3, 4, 0, 0);
        x.ticks(100);
        x.timer(0, 200, 600);
        Due.due("500 later", x.beginsIn(0), 500);
        InterruptInn y = new InterruptInn();
        y.line(0, 4, 0, 0);
        y.set(InterruptInn.AGE, 100);
        y.raise(0);
        y.set(InterruptInn.BAR, 6);
        Due.due("600 ticks: too late", y.beginsIn(0), Due.NONE);
        y.ticks(1);
        Due.due("599 ticks", y.beginsIn(0), 599);
        y.mask(0, 1);
        Due.due("masked", y.beginsIn(0), Due.NONE);
    }

    private static void idle() {
        InterruptInn x = new InterruptInn();
        x.line(3, 4, 0, 0);
        x.raise(0);
        Due.due("idle now, though one waits", x.idleIn(), 0);
        x.ticks(1);
        Due.due("four ticks left", x.idleIn(), 4);
        x.line(5, 2, 0, 0);
        x.raise(1);
        Due.due("interrupted", x.idleIn(), 7);
        x.change(1, 1, 2, 0);
        Due.due("the next one waits in between", x.idleIn(), 4);
        x.ticks(4);
        Due.due("now", x.idleIn(), 0);
    }

    private static void idleEdges() {
        // Eight lines, each begun on the one below, take 8 * 59 ticks, and what timers raise above them more.
        InterruptInn x = new InterruptInn();
        for (int line = 0; line < 9; line++) {
            x.line(line, 50, 0, 0);
        }
        x.set(InterruptInn.SWITCH, 9);
        x.set(InterruptInn.DEEPEST, 8);
        for (int line = 0; line < 7; line++) {
            x.raise(line);
            x.ticks(1);
        }
        Due.due("seven in the nest", x.count(3), 7);
        Due.due("their ticks", x.idleIn(), 7 * 59 - 7);
        x.timer(7, 200, 7);
        Due.due("four more of a timer's", x.idleIn(), 7 * 59 - 7 + 3 * 59);
        x.set(InterruptInn.SWITCH, 8);
        Due.due("within 600", x.idleIn(), 7 * 59 - 7 + 3 * 58);
        x.stop(0);
        x.timer(7, 100, 7);
        Due.due("never within 600", x.idleIn(), Due.NONE);
        InterruptInn y = new InterruptInn();
        y.line(0, 50, 0, 0);
        y.line(9, 42, 0, 0);
        y.set(InterruptInn.SWITCH, 8);
        y.raise(0);
        y.ticks(1);
        y.timer(1, 50, 1);
        Due.due("no tick is left", y.idleIn(), Due.NONE);
        y.change(1, 9, 38, 0);
        Due.due("four of fifty are left", y.idleIn(), Due.NONE);
        y.change(1, 9, 37, 0);
        // 57 ticks are left; each 50 give 5 of them: 11 whole rounds, then 2 ticks behind the twelfth service.
        Due.due("five of fifty are left", y.idleIn(), 11 * 50 + 45 + 2);
        y.timer(0, 200, 1);
        y.ticks(5);
        Due.due("five ticks on", y.idleIn(), 592);
        InterruptInn z = new InterruptInn();
        z.line(0, 50, 0, 0);
        z.line(9, 42, 0, 0);
        z.set(InterruptInn.SWITCH, 9);
        z.raise(0);
        z.ticks(1);
        z.change(1, 9, 36, 0);
        z.timer(1, 50, 1);
        // 58 ticks are left: 11 rounds, then 3 ticks.
        Due.due("close to 600", z.idleIn(), 11 * 50 + 45 + 3);
    }

    private static void idleIn600() {
        InterruptInn x = new InterruptInn();
        for (int line = 0; line < 8; line++) {
            x.line(line, 50, 0, 0);
        }
        x.line(8, 8, 0, 0);
        x.set(InterruptInn.SWITCH, 9);
        x.set(InterruptInn.DEEPEST, 8);
        for (int line = 0; line < 7; line++) {
            x.raise(line);
            x.ticks(1);
        }
        x.raise(8);
        x.timer(7, 200, 8);
        Due.due("600: seven lines, the eighth three times, the ninth", x.idleIn(), 7 * 59 - 7 + 3 * 59 + 17);
        x.change(8, 8, 9, 0);
        Due.due("601", x.idleIn(), Due.NONE);
        x.ticks(1);
        Due.due("a tick later", x.idleIn(), 600);
    }

    private static void missing() {
        InterruptInn x = new InterruptInn();
        x.line(3, 9, 5, 0);
        x.line(2, 9, 5, 0);
        x.raise(0);
        x.raise(1);
        Due.due("not within 10", x.missesIn(10), 0);
        Due.due("within 11", x.missesIn(11), 1);
        Due.due("none counted", x.count(8), 0);
        Due.due("not in the next one", x.missesIn(1), 0);
        x.ticks(10);
        Due.due("in the next one", x.missesIn(1), 1);
        x.ticks(1);
        Due.due("it was one", x.count(8), 1);
        Due.due("no more of them", x.missesIn(500), 0);
        x.change(0, 3, 4, 5);
        x.timer(0, 10, 11);
        x.timer(1, 10, 11);
        int expected = x.missesIn(300);
        x.ticks(300);
        Due.due("as forecast", x.count(8), 1 + expected);
        Due.due("there are some", expected > 10 ? 1 : 0, 1);
        Due.due("ticks 0", x.missesIn(0), Due.BAD_VALUE);
        Due.due("ticks 501", x.missesIn(501), Due.BAD_VALUE);
        for (int odd : Due.ODD) {
            Due.due("odd ticks", x.missesIn(odd), Due.BAD_VALUE);
        }
    }

    private static void bars() {
        InterruptInn x = new InterruptInn();
        x.line(4, 5, 0, 0);
        Due.due("nothing waits", x.greatestBar(0, 200), Due.NONE);
        x.raise(0);
        Due.due("rank 4", x.greatestBar(0, 20), 4);
        Due.due("rank 5 in the tick behind 20", x.greatestBar(0, 21), 5);
        Due.due("200 ticks", x.greatestBar(0, 200), 13);
        x.set(InterruptInn.BAR, 20);
        Due.due("the present BAR does not matter", x.greatestBar(0, 21), 5);
        Due.due("BAR stays", x.count(18), 20);
        x.set(InterruptInn.AGE, 1);
        x.set(InterruptInn.CAP, 31);
        Due.due("31", x.greatestBar(0, 200), 31);
        x.mask(0, 1);
        Due.due("masked", x.greatestBar(0, 200), Due.NONE);
        Due.due("no such", x.greatestBar(1, 0), Due.NO_SUCH);
        Due.due("ticks 0", x.greatestBar(0, 0), Due.BAD_VALUE);
        Due.due("ticks 201", x.greatestBar(0, 201), Due.BAD_VALUE);
        for (int odd : Due.ODD) {
            Due.due("odd ticks", x.greatestBar(0, odd), Due.BAD_VALUE);
            Due.due("odd line", x.greatestBar(odd, 1), Due.NO_SUCH);
        }
        InterruptInn y = new InterruptInn();
        y.line(0, 1, 0, 0);
        y.raise(0);
        Due.due("0", y.greatestBar(0, 1), 0);
        Due.due("no such in a new one", new InterruptInn().greatestBar(0, 1), Due.NO_SUCH);
    }

    private static void barsAreNoOrder() {
        // Up to bar 3 the rival begins at once and can't be interrupted; above that it stays away and line 1 begins.
        InterruptInn x = new InterruptInn();
        x.set(InterruptInn.GAP, 9);
        x.line(3, 50, 0, 0);
        x.line(5, 5, 0, 0);
        x.raise(0);
        x.timer(1, 200, 1);
        Due.due("with the rival", x.beginsIn(1), 51);
        Due.due("a greater bar helps", x.greatestBar(1, 20), 5);
        x.set(InterruptInn.BAR, 5);
        Due.due("without it", x.beginsIn(1), 1);
        Due.due("not in the first tick", x.greatestBar(1, 1), Due.NONE);
        InterruptInn y = new InterruptInn();
        y.line(5, 50, 0, 0);
        y.line(3, 5, 0, 0);
        y.set(InterruptInn.AGE, 2);
        y.mask(0, 1);
        y.mask(1, 1);
        y.raise(1);
        y.ticks(5);
        y.raise(0);
        y.mask(0, 0);
        y.mask(1, 0);
        Due.due("equal ranks, the longer wait", y.greatestBar(1, 1), 5);
        Due.due("bars up to CAP", y.greatestBar(1, 200), 24);
    }

    private static void bounds() {
        InterruptInn x = new InterruptInn();
        x.line(3, 4, 0, 0);
        x.line(5, 2, 0, 0);
        x.line(3, 6, 0, 1);
        x.line(2, 7, 0, 0);
        Due.due("no timers", x.bound(0), 5 + 8);
        Due.due("lower ranks", x.bound(1), 3 + 8);
        Due.due("the lowest rank", x.bound(3), 8);
        x.timer(0, 7, 0);
        Due.due("its own timer does not count", x.bound(0), 13);
        Due.due("a lower line's timer does not count", x.bound(1), 11);
        Due.due("an equal rank's timer counts", x.bound(2), 7 + 8 + 8 * 5);
        x.timer(1, 20, 0);
        Due.due("a timer above", x.bound(0), 13 + 3);
        x.timer(1, 14, 0);
        Due.due("two timers of one line", x.bound(0), 13 + 6 + 6);
        for (int timer = 3; timer < 6; timer++) {
            x.timer(3, 1, 0);
        }
        Due.due("three more of a lower line", x.bound(0), 25);
        x.mask(1, 1);
        Due.due("masked or not", x.bound(0), 25);
        x.set(InterruptInn.SWITCH, 0);
        Due.due("SWITCH as it is", x.bound(1), 2 + 7);
        Due.due("no such", x.bound(4), Due.NO_SUCH);
        for (int odd : Due.ODD) {
            Due.due("odd", x.bound(odd), Due.NO_SUCH);
        }
    }

    private static void boundNone() {
        InterruptInn x = new InterruptInn();
        x.set(InterruptInn.SWITCH, 0);
        x.line(3, 50, 0, 0);
        x.line(5, 1, 0, 0);
        x.timer(1, 1, 0);
        Due.due("w = 50 + w", x.bound(0), Due.NONE);
        x.stop(0);
        x.change(1, 5, 50, 0);
        x.timer(1, 51, 0);
        Due.due("w = 50 + (w / 51) * 50", x.bound(0), 50 + 50 * 50);
        x.change(0, 3, 49, 0);
        Due.due("one less", x.bound(0), 49 + 49 * 50);
        x.change(1, 5, 49, 0);
        x.timer(1, 200, 0);
        Due.due("one timer more", x.bound(0), Due.NONE);
        bound3000();
        InterruptInn y = new InterruptInn();
        y.set(InterruptInn.SWITCH, 0);
        y.line(1, 9, 0, 0);
        y.line(2, 50, 0, 0);
        y.line(0, 1, 0, 0);
        y.line(0, 40, 0, 0);
        y.timer(1, 100, 0);
        y.timer(1, 100, 0);
        Due.due("full up to 3000 and beyond", y.bound(0), Due.NONE);
        Due.due("a bound by its own", y.bound(1), 50 + 40);
    }

    private static void bound3000() {
        InterruptInn x = new InterruptInn();
        x.set(InterruptInn.SWITCH, 0);
        x.line(3, 50, 0, 0);
        x.line(5, 49, 0, 0);
        x.line(1, 10, 0, 0);
        x.timer(1, 50, 0);
        Due.due("3000 = 10 + 50 + 60 * 49", x.bound(0), 3000);
        x.change(2, 1, 11, 0);
        Due.due("3050 is too much", x.bound(0), Due.NONE);
        InterruptInn y = new InterruptInn();
        y.set(InterruptInn.SWITCH, 0);
        y.line(3, 50, 0, 0);
        y.line(5, 40, 0, 0);
        y.line(6, 37, 0, 0);
        y.line(1, 25, 0, 0);
        y.timer(1, 79, 0);
        y.timer(2, 79, 0);
        Due.due("3001 = 25 + 50 + 38 * 77", y.bound(0), Due.NONE);
        y.change(3, 1, 24, 0);
        Due.due("2923 = 24 + 50 + 37 * 77", y.bound(0), 2923);
        InterruptInn z = new InterruptInn();
        z.set(InterruptInn.SWITCH, 0);
        z.line(0, 1, 0, 0);
        Due.due("the least bound", z.bound(0), 1);
    }

    private static void loads() {
        InterruptInn x = new InterruptInn();
        x.line(3, 4, 0, 0);
        x.line(5, 2, 0, 0);
        Due.due("no timers", x.load(), 0);
        x.timer(0, 5, 0);
        Due.due("5 of 5", x.load(), 1000);
        x.timer(1, 3, 0);
        Due.due("and 3 of 3", x.load(), 2000);
        x.timer(1, 7, 0);
        Due.due("and 3 of 7, rounded up", x.load(), 2429);
        x.set(InterruptInn.SWITCH, 0);
        Due.due("SWITCH as it is: 4/5 + 2/3 + 2/7", x.load(), 1753);
        InterruptInn y = new InterruptInn();
        y.set(InterruptInn.SWITCH, 0);
        y.line(0, 1, 0, 0);
        for (int i = 0; i < 6; i++) {
            y.timer(0, 6, 0);
        }
        Due.due("six sixths are exactly one", y.load(), 1000);
        InterruptInn z = new InterruptInn();
        z.set(InterruptInn.SWITCH, 9);
        z.line(0, 50, 0, 0);
        int[] periods = {199, 197, 193, 191, 181, 179};
        for (int period : periods) {
            z.timer(0, period, 0);
        }
        // 59000 * (1/199 + 1/197 + 1/193 + 1/191 + 1/181 + 1/179) = 1866.15...
        Due.due("great primes", z.load(), 1867);
        InterruptInn w = new InterruptInn();
        w.set(InterruptInn.SWITCH, 9);
        w.line(0, 50, 0, 0);
        for (int i = 0; i < 6; i++) {
            w.timer(0, 1, 0);
        }
        Due.due("the greatest load", w.load(), 354000);
        InterruptInn v = new InterruptInn();
        v.set(InterruptInn.SWITCH, 0);
        v.line(0, 1, 0, 0);
        v.timer(0, 200, 0);
        Due.due("5 thousandths", v.load(), 5);
        v.timer(0, 199, 0);
        Due.due("rounded up once, not each", v.load(), 11);
        v.timer(0, 199, 0);
        Due.due("15.05.. is 16", v.load(), 16);
    }

    private static void nothingChanges() {
        InterruptInn x = Due.busy();
        Due.write(x, "uA;");
        List<Integer> before = Due.seenWithAll(x);
        for (int line = -1; line < 5; line++) {
            x.beginsIn(line);
            x.greatestBar(line, 200);
            x.greatestBar(line, 0);
            x.bound(line);
        }
        x.idleIn();
        x.missesIn(500);
        x.missesIn(0);
        x.load();
        Due.due("nothing changes", Due.seenWithAll(x), before);
    }

    private static void forecastsComeTrue() {
        InterruptInn x = Due.busy();
        int idle = x.idleIn();
        int begins = x.beginsIn(2);
        Due.due("idle", idle, 18 + 8 + 10);
        for (int passed = 0; passed < 100; passed++) {
            if (passed <= idle) {
                Due.due("idle after " + passed, x.count(3) == 0 ? 1 : 0, passed == idle ? 1 : 0);
            }
            if (passed <= begins) {
                Due.due("not begun after " + passed, x.ofLine(2, 12), 0);
            }
            if (passed == begins + 1) {
                Due.due("begun after " + passed, x.ofLine(2, 12), 1);
            }
            x.ticks(1);
        }
    }
}
