/** Promises 11 to 14: ofLine, ofNest, ofTimer, count. */
public final class NumbersTest {
    public static void main(String[] args) {
        lineNumbers();
        nestNumbers();
        timerNumbers();
        counts();
        errors();
        Due.finish();
    }

    private static void check(String name, InterruptInn x, int line, int... want) {
        for (int what = 0; what < want.length; what++) {
            Due.due(name + ": ofLine(" + line + ", " + what + ")", x.ofLine(line, what), want[what]);
        }
    }

    private static void lineNumbers() {
        InterruptInn x = Due.busy();
        check("busy", x, 0, 3, 20, 5, 0, 0, 0, Due.NONE, 3, 0, 0, 1, 0, 1, 0, 0, 0, 0);
        check("busy", x, 1, 6, 9, 0, 1, 0, 0, Due.NONE, 6, 1, 5, 0, 0, 1, 0, 0, 0, 0);
        check("busy", x, 2, 1, 4, 2, 0, 0, 1, 2, 1, Due.NONE, 0, 1, 0, 0, 0, 0, 0, 0);
        check("busy", x, 3, 2, 5, 0, 1, 1, 1, 2, 2, Due.NONE, 2, 0, 0, 0, 0, 0, 0, 0);
        x.ticks(20);
        check("later", x, 0, 3, 20, 5, 0, 0, 1, 14, 3, 0, 0, 2, 0, 1, 0, 0, 0, 0);
        check("later", x, 1, 6, 9, 0, 1, 0, 0, Due.NONE, 6, Due.NONE, 0, 0, 0, 2, 2, 1, 1, 0);
        check("later", x, 2, 1, 4, 2, 0, 0, 1, 22, 2, Due.NONE, 0, 4, 3, 0, 0, 0, 0, 0);
        check("later", x, 3, 2, 5, 0, 1, 1, 1, 22, 3, Due.NONE, 2, 0, 0, 0, 0, 0, 0, 0);
    }

    private static void nestNumbers() {
        InterruptInn x = Due.busy();
        int[][] want = {{0, 3, 18, 0}, {1, 6, 8, 3}};
        for (int place = 0; place < 2; place++) {
            for (int what = 0; what < 4; what++) {
                Due.due("ofNest(" + place + ", " + what + ")", x.ofNest(place, what), want[place][what]);
            }
        }
        Due.due("no place", x.ofNest(2, 0), Due.NO_SUCH);
        x.ticks(8);
        Due.due("the upper one ended", x.count(3), 1);
        Due.due("no place any more", x.ofNest(1, 0), Due.NO_SUCH);
    }

    private static void timerNumbers() {
        InterruptInn x = Due.busy();
        int[][] want = {{2, 7, 10}, {0, 30, 11}};
        for (int timer = 0; timer < 2; timer++) {
            for (int what = 0; what < 3; what++) {
                Due.due("ofTimer(" + timer + ", " + what + ")", x.ofTimer(timer, what), want[timer][what]);
            }
        }
        Due.due("no timer", x.ofTimer(2, 0), Due.NO_SUCH);
    }

    private static void counts() {
        InterruptInn x = Due.busy();
        int[] want = {5, 4, 2, 2, 12, 2, 5, 2, 0, 1, 0, 6, 20, 24, 1, 3, 1, 1, 0};
        for (int what = 0; what < want.length; what++) {
            Due.due("count(" + what + ")", x.count(what), want[what]);
        }
        Due.write(x, "t9;t9;uA");
        Due.due("pad", x.count(10), 8);
        Due.due("putting is no change", x.count(11), 6);
        InterruptInn y = new InterruptInn();
        y.line(1, 1, 1, 0);
        y.timer(0, 1, 0);
        Due.due("a timer that is due has raised nothing yet", y.count(5), Due.NONE);
        Due.due("history grows", y.count(11), 2);
        for (int i = 0; i < 9; i++) {
            y.ticks(1);
        }
        Due.due("history is full", y.count(11), 6);
        y.undo();
        Due.due("history shrinks", y.count(11), 5);
        InterruptInn z = new InterruptInn();
        int[] values = {7, 8, 9, 6, 5, 0, 4};
        for (int setting = 0; setting < 7; setting++) {
            z.set(setting, values[setting]);
        }
        for (int setting = 0; setting < 7; setting++) {
            Due.due("setting " + setting, z.count(12 + setting), values[setting]);
        }
        InterruptInn w = new InterruptInn();
        for (int line = 0; line < 12; line++) {
            w.line(line, 1, 1, 0);
            w.raise(line);
        }
        Due.due("all lines wait", w.count(4), 4095);
        w.ticks(1);
        Due.due("all but one", w.count(4), 2047);
        w.ticks(500);
        Due.due("misses", w.count(8), 11);
        Due.due("served", w.count(6), 24);
    }

    private static void errors() {
        InterruptInn x = Due.busy();
        Due.due("ofLine what 17", x.ofLine(0, 17), Due.BAD_VALUE);
        Due.due("ofLine what -1", x.ofLine(0, -1), Due.BAD_VALUE);
        Due.due("ofLine none", x.ofLine(4, 17), Due.NO_SUCH);
        Due.due("ofNest what 4", x.ofNest(0, 4), Due.BAD_VALUE);
        Due.due("ofNest what -1", x.ofNest(1, -1), Due.BAD_VALUE);
        Due.due("ofNest none", x.ofNest(2, 4), Due.NO_SUCH);
        Due.due("ofTimer what 3", x.ofTimer(0, 3), Due.BAD_VALUE);
        Due.due("ofTimer what -1", x.ofTimer(1, -1), Due.BAD_VALUE);
        Due.due("ofTimer none", x.ofTimer(2, 3), Due.NO_SUCH);
        Due.due("count what 19", x.count(19), Due.BAD_VALUE);
        Due.due("count what -1", x.count(-1), Due.BAD_VALUE);
        for (int odd : Due.ODD) {
            Due.due("ofLine odd what", x.ofLine(0, odd), Due.BAD_VALUE);
            Due.due("ofLine odd line", x.ofLine(odd, 0), Due.NO_SUCH);
            Due.due("ofNest odd what", x.ofNest(0, odd), Due.BAD_VALUE);
            Due.due("ofNest odd place", x.ofNest(odd, 0), Due.NO_SUCH);
            Due.due("ofTimer odd what", x.ofTimer(0, odd), Due.BAD_VALUE);
            Due.due("ofTimer odd timer", x.ofTimer(odd, 0), Due.NO_SUCH);
            Due.due("count odd", x.count(odd), Due.BAD_VALUE);
        }
    }
}
