/** Promises 1 to 5: a new object, set, line, timer, stop. */
public final class SettingUpTest {
    private static final int[] LEAST = {0, 0, 1, 1, 0, 0, 0};
    private static final int[] MOST = {100, 31, 9, 8, 9, 1, 31};
    private static final int[] FIRST = {20, 24, 1, 3, 1, 1, 0};

    public static void main(String[] args) {
        newObject();
        settings();
        settingLeavesNest();
        lines();
        lineErrors();
        lineInAUsedPlace();
        timers();
        timerErrors();
        timerFirstIsFromNow();
        stopping();
        Due.finish();
    }

    private static void newObject() {
        InterruptInn x = new InterruptInn();
        for (int what = 0; what <= 11; what++) {
            Due.due("new: count(" + what + ")", x.count(what), what == 5 ? Due.NONE : 0);
        }
        for (int setting = 0; setting < 7; setting++) {
            Due.due("new: count(12 + " + setting + ")", x.count(12 + setting), FIRST[setting]);
        }
        Due.due("new: ofLine(0, 0)", x.ofLine(0, 0), Due.NO_SUCH);
        Due.due("new: ofNest(0, 0)", x.ofNest(0, 0), Due.NO_SUCH);
        Due.due("new: ofTimer(0, 0)", x.ofTimer(0, 0), Due.NO_SUCH);
        Due.due("new: fault()", x.fault(), 0);
        Due.due("new: undo()", x.undo(), Due.NOT_POSSIBLE);
        Due.due("new: restore(0)", x.restore(0), Due.NOT_POSSIBLE);
        Due.due("new: restore(1)", x.restore(1), Due.NOT_POSSIBLE);
        Due.due("new: idleIn()", x.idleIn(), 0);
        Due.due("new: load()", x.load(), 0);
        Due.due("new: ticks(1)", x.ticks(1), 1);
    }

    private static void settings() {
        for (int setting = 0; setting < 7; setting++) {
            InterruptInn x = new InterruptInn();
            Due.due("set least " + setting, x.set(setting, LEAST[setting]), FIRST[setting]);
            Due.due("set most " + setting, x.set(setting, MOST[setting]), LEAST[setting]);
            Due.due("set below " + setting, x.set(setting, LEAST[setting] - 1), Due.BAD_VALUE);
            Due.due("set above " + setting, x.set(setting, MOST[setting] + 1), Due.BAD_VALUE);
            for (int odd : Due.ODD) {
                Due.due("set odd " + setting, x.set(setting, odd), Due.BAD_VALUE);
                Due.due("set no setting " + odd, x.set(odd, 1), Due.BAD_VALUE);
            }
            Due.due("set(7, 1)", x.set(7, 1), Due.BAD_VALUE);
            Due.due("set stays " + setting, x.count(12 + setting), MOST[setting]);
            Due.due("set recorded twice " + setting, x.count(11), 2);
            Due.due("set same " + setting, x.set(setting, MOST[setting]), MOST[setting]);
            Due.due("set same is a change " + setting, x.count(11), 3);
        }
    }

    private static void settingLeavesNest() {
        InterruptInn x = Due.busy();
        Due.due("nest before", x.count(3), 2);
        int rank = x.ofNest(1, 1);
        int left = x.ofNest(1, 2);
        x.set(InterruptInn.DEEPEST, 1);
        x.set(InterruptInn.SWITCH, 9);
        x.set(InterruptInn.CAP, 0);
        x.set(InterruptInn.BAR, 31);
        Due.due("nest after", x.count(3), 2);
        Due.due("rank after", x.ofNest(1, 1), rank);
        Due.due("ticks after", x.ofNest(1, 2), left);
        x.ticks(1);
        Due.due("it is served on", x.ofNest(1, 2), left - 1);
    }

    private static void lines() {
        InterruptInn x = new InterruptInn();
        Due.due("line least", x.line(0, 1, 0, 0), 0);
        Due.due("line most", x.line(15, 50, 500, 1), 1);
        int[] first = {0, 1, 0, 0, 0, 0, Due.NONE, 0, Due.NONE, 0, 0, 0, 0, 0, 0, 0, 0};
        int[] second = {15, 50, 500, 1, 0, 0, Due.NONE, 15, Due.NONE, 0, 0, 0, 0, 0, 0, 0, 0};
        for (int what = 0; what <= 16; what++) {
            Due.due("line 0, " + what, x.ofLine(0, what), first[what]);
            Due.due("line 1, " + what, x.ofLine(1, what), second[what]);
        }
        for (int number = 2; number < 12; number++) {
            Due.due("line number", x.line(number, number, number, number % 2), number);
        }
        Due.due("thirteenth", x.line(1, 1, 1, 0), Due.TOO_MANY);
        Due.due("wrong thirteenth", x.line(16, 1, 1, 0), Due.BAD_VALUE);
        Due.due("lines", x.count(1), 12);
        Due.due("history", x.count(11), 6);
        x.undo();
        Due.due("after undo", x.line(4, 3, 2, 1), 11);
        Due.due("after undo, rank", x.ofLine(11, 0), 4);
    }

    private static void lineErrors() {
        InterruptInn x = new InterruptInn();
        Due.due("rank -1", x.line(-1, 1, 0, 0), Due.BAD_VALUE);
        Due.due("rank 16", x.line(16, 1, 0, 0), Due.BAD_VALUE);
        Due.due("need 0", x.line(0, 0, 0, 0), Due.BAD_VALUE);
        Due.due("need 51", x.line(0, 51, 0, 0), Due.BAD_VALUE);
        Due.due("deadline -1", x.line(0, 1, -1, 0), Due.BAD_VALUE);
        Due.due("deadline 501", x.line(0, 1, 501, 0), Due.BAD_VALUE);
        Due.due("level -1", x.line(0, 1, 0, -1), Due.BAD_VALUE);
        Due.due("level 2", x.line(0, 1, 0, 2), Due.BAD_VALUE);
        for (int odd : Due.ODD) {
            Due.due("odd rank", x.line(odd, 1, 0, 0), Due.BAD_VALUE);
            Due.due("odd need", x.line(0, odd, 0, 0), Due.BAD_VALUE);
            Due.due("odd deadline", x.line(0, 1, odd, 0), Due.BAD_VALUE);
            Due.due("odd level", x.line(0, 1, 0, odd), Due.BAD_VALUE);
        }
        Due.due("no line", x.count(1), 0);
        Due.due("no history", x.count(11), 0);
    }

    /** A line that takes the number of one that was undone has nothing of it. */
    private static void lineInAUsedPlace() {
        InterruptInn x = new InterruptInn();
        x.save(0);
        x.line(7, 7, 7, 1);
        x.line(6, 6, 6, 0);
        x.line(5, 1, 1, 0);
        x.hold(0, 0, 1);
        x.raise(1);
        x.raise(2);
        x.raise(2);
        x.ticks(40);
        x.raise(1);
        x.mask(1, 1);
        x.hold(0, 1, 1);
        x.hold(0, 3, 1);
        x.ticks(2);
        x.raise(2);
        x.ticks(7);
        x.mask(0, 1);
        for (int what = 8; what <= 16; what++) {
            boolean used = x.ofLine(0, what) > 0 || x.ofLine(1, what) > 0 || x.ofLine(2, what) > 0;
            Due.due("used " + what, used || what == 8 ? 1 : 0, 1);
        }
        Due.due("restore", x.restore(0), 0);
        InterruptInn fresh = new InterruptInn();
        for (int line = 0; line < 3; line++) {
            x.line(3, 4, 0, line % 2);
            fresh.line(3, 4, 0, line % 2);
        }
        for (int line = 0; line < 3; line++) {
            for (int what = 0; what <= 16; what++) {
                Due.due("used place " + line + ", " + what, x.ofLine(line, what), fresh.ofLine(line, what));
            }
        }
        x.raise(0);
        fresh.raise(0);
        x.hold(1, 2, 1);
        fresh.hold(1, 2, 1);
        Due.due("they go on alike", Due.seen(x), Due.seen(fresh));
        x.ticks(30);
        fresh.ticks(30);
        Due.due("they end alike", Due.seen(x), Due.seen(fresh));
    }

    private static void timers() {
        InterruptInn x = new InterruptInn();
        x.line(1, 2, 0, 0);
        x.line(2, 2, 0, 1);
        Due.due("timer 0", x.timer(0, 1, 0), 0);
        Due.due("timer 1", x.timer(0, 200, 500), 1);
        Due.due("timer 1 line", x.ofTimer(1, 0), 0);
        Due.due("timer 1 period", x.ofTimer(1, 1), 200);
        Due.due("timer 1 next", x.ofTimer(1, 2), 500);
        for (int number = 2; number < 6; number++) {
            Due.due("timer number", x.timer(0, number, number), number);
        }
        Due.due("seventh", x.timer(0, 1, 0), Due.TOO_MANY);
        Due.due("timers", x.count(2), 6);
        Due.due("full is ahead of level", x.timer(1, 1, 0), Due.TOO_MANY);
        Due.due("value is ahead of full", x.timer(1, 0, 0), Due.BAD_VALUE);
        Due.due("line is ahead of value", x.timer(2, 0, 0), Due.NO_SUCH);
        Due.due("one of six is stopped", x.stop(0), 5);
        Due.due("the last one now", x.ofTimer(4, 1), 5);
        Due.due("no more", x.ofTimer(5, 1), Due.NO_SUCH);
        Due.due("again six", x.timer(0, 9, 9), 5);
        Due.due("the sixth is stopped", x.stop(5), 5);
    }

    private static void timerErrors() {
        InterruptInn x = new InterruptInn();
        x.line(1, 2, 0, 0);
        x.line(2, 2, 0, 1);
        Due.due("no line 2", x.timer(2, 1, 0), Due.NO_SUCH);
        Due.due("period 0", x.timer(0, 0, 0), Due.BAD_VALUE);
        Due.due("period 201", x.timer(0, 201, 0), Due.BAD_VALUE);
        Due.due("first -1", x.timer(0, 1, -1), Due.BAD_VALUE);
        Due.due("first 501", x.timer(0, 1, 501), Due.BAD_VALUE);
        Due.due("level line", x.timer(1, 1, 0), Due.NOT_POSSIBLE);
        Due.due("value is ahead of level", x.timer(1, 1, 501), Due.BAD_VALUE);
        for (int odd : Due.ODD) {
            Due.due("odd line", x.timer(odd, 0, -1), Due.NO_SUCH);
            Due.due("odd period", x.timer(1, odd, 0), Due.BAD_VALUE);
            Due.due("odd first", x.timer(1, 1, odd), Due.BAD_VALUE);
        }
        Due.due("no timer", x.count(2), 0);
        Due.due("history", x.count(11), 2);
    }

    private static void timerFirstIsFromNow() {
        InterruptInn x = new InterruptInn();
        x.line(1, 2, 0, 0);
        x.ticks(40);
        Due.due("first in the past", x.timer(0, 5, 39), Due.BAD_VALUE);
        Due.due("first too late", x.timer(0, 5, 541), Due.BAD_VALUE);
        Due.due("first latest", x.timer(0, 5, 540), 0);
        Due.due("first now", x.timer(0, 5, 40), 1);
        Due.due("it has raised nothing yet", x.ofLine(0, 10), 0);
        x.ticks(1);
        Due.due("it raises in this tick", x.ofLine(0, 10), 1);
        Due.due("its next tick", x.ofTimer(1, 2), 45);
        Due.due("the other one's", x.ofTimer(0, 2), 540);
        x.ticks(4);
        Due.due("not yet", x.ofLine(0, 10), 1);
        x.ticks(1);
        Due.due("again", x.ofLine(0, 10), 2);
        Due.due("its next tick again", x.ofTimer(1, 2), 50);
    }

    private static void stopping() {
        InterruptInn x = new InterruptInn();
        for (int line = 0; line < 4; line++) {
            x.line(line, 1, 0, 0);
            x.timer(line, 10 + line, 20 + line);
        }
        Due.due("stop 1", x.stop(1), 3);
        int[] left = {0, 2, 3};
        for (int timer = 0; timer < 3; timer++) {
            Due.due("stopped: line", x.ofTimer(timer, 0), left[timer]);
            Due.due("stopped: period", x.ofTimer(timer, 1), 10 + left[timer]);
            Due.due("stopped: next", x.ofTimer(timer, 2), 20 + left[timer]);
        }
        Due.due("stopped: none", x.ofTimer(3, 0), Due.NO_SUCH);
        Due.due("stop none", x.stop(3), Due.NO_SUCH);
        for (int odd : Due.ODD) {
            Due.due("stop odd", x.stop(odd), Due.NO_SUCH);
        }
        Due.due("stop last", x.stop(2), 2);
        Due.due("stop first", x.stop(0), 1);
        Due.due("what is left", x.ofTimer(0, 0), 2);
        x.ticks(60);
        Due.due("a stopped timer raises nothing", x.ofLine(1, 10), 0);
        Due.due("the last one raises", x.ofLine(2, 10), 4);
        Due.due("stop it", x.stop(0), 0);
        Due.due("undo brings it back", x.undo(), 5);
        Due.due("it is back", x.ofTimer(0, 0), 2);
    }
}
