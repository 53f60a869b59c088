/** Promises 3 to 5: each argument's ends, full rows, first ticks, a timer that is stopped ahead of others. */
public final class SettingUpEdgesTest {
    public static void main(String[] args) {
        rank();
        need();
        deadline();
        level();
        twelveLines();
        period();
        firstTickAtZero();
        firstTickLater();
        sixTimers();
        timerOfLevelLine();
        noLineForATimer();
        severalTimersOfALine();
        noSuchTimer();
        stoppedAheadOfOthers();
        stoppedTimerRaisesNothing();
        stoppedToNone();
        Due.finish();
    }

    private static void rank() {
        Due.by("line: rank: 0 to 15");
        InterruptInn x = new InterruptInn();
        Due.due("-1", x.line(-1, 1, 0, 0), Due.BAD_VALUE);
        Due.due("0", x.line(0, 1, 0, 0), 0);
        Due.due("15", x.line(15, 1, 0, 0), 1);
        Due.due("16", x.line(16, 1, 0, 0), Due.BAD_VALUE);
        Due.due("it is 0", x.ofLine(0, 0), 0);
        Due.due("it is 15", x.ofLine(1, 0), 15);
        Due.due("two lines", x.count(1), 2);
    }

    private static void need() {
        Due.by("line: need: 1 to 50");
        InterruptInn x = new InterruptInn();
        Due.due("0", x.line(0, 0, 0, 0), Due.BAD_VALUE);
        Due.due("-1", x.line(0, -1, 0, 0), Due.BAD_VALUE);
        Due.due("1", x.line(0, 1, 0, 0), 0);
        Due.due("50", x.line(0, 50, 0, 0), 1);
        Due.due("51", x.line(0, 51, 0, 0), Due.BAD_VALUE);
        Due.due("it is 1", x.ofLine(0, 1), 1);
        Due.due("it is 50", x.ofLine(1, 1), 50);
    }

    private static void deadline() {
        Due.by("line: deadline: 0 to 500");
        InterruptInn x = new InterruptInn();
        Due.due("-1", x.line(0, 1, -1, 0), Due.BAD_VALUE);
        Due.due("0", x.line(0, 1, 0, 0), 0);
        Due.due("500", x.line(0, 1, 500, 0), 1);
        Due.due("501", x.line(0, 1, 501, 0), Due.BAD_VALUE);
        Due.due("it is 0", x.ofLine(0, 2), 0);
        Due.due("it is 500", x.ofLine(1, 2), 500);
    }

    private static void level() {
        Due.by("line: level: 1 for a level line, 0 for an edge line");
        InterruptInn x = new InterruptInn();
        Due.due("-1", x.line(0, 1, 0, -1), Due.BAD_VALUE);
        Due.due("0", x.line(0, 1, 0, 0), 0);
        Due.due("1", x.line(0, 1, 0, 1), 1);
        Due.due("2", x.line(0, 1, 0, 2), Due.BAD_VALUE);
        Due.due("0 is an edge line", x.raise(0), 1);
        Due.due("1 is a level line", x.hold(1, 0, 1), 1);
        Due.due("0 is no level line", x.ofLine(0, 3), 0);
        Due.due("1 is one", x.ofLine(1, 3), 1);
    }

    private static void twelveLines() {
        Due.by("There are up to 12 lines. line: TOO_MANY if there are 12 lines");
        InterruptInn x = new InterruptInn();
        for (int line = 0; line < 12; line++) {
            Due.due("line " + line, x.line(line, 1, 0, line % 2), line);
        }
        Due.due("an edge line more", x.line(0, 1, 0, 0), Due.TOO_MANY);
        Due.due("a level line more", x.line(0, 1, 0, 1), Due.TOO_MANY);
        Due.due("12 lines", x.count(1), 12);
        Due.due("the 12th is of use", x.hold(11, 3, 1), 8);
        Due.due("there is no 13th", x.ofLine(12, 0), Due.NO_SUCH);
    }

    private static InterruptInn oneLine() {
        InterruptInn x = new InterruptInn();
        x.line(3, 1, 0, 0);
        return x;
    }

    private static void period() {
        Due.by("timer: period: 1 to 200");
        InterruptInn x = oneLine();
        Due.due("0", x.timer(0, 0, 0), Due.BAD_VALUE);
        Due.due("-1", x.timer(0, -1, 0), Due.BAD_VALUE);
        Due.due("201", x.timer(0, 201, 0), Due.BAD_VALUE);
        Due.due("1", x.timer(0, 1, 0), 0);
        x.ticks(7);
        Due.due("an edge in each tick", x.ofLine(0, 10), 7);
        Due.due("next", x.ofTimer(0, 2), 7);
        InterruptInn y = oneLine();
        Due.due("200", y.timer(0, 200, 0), 0);
        y.ticks(200);
        Due.due("one edge in 200 ticks", y.ofLine(0, 10), 1);
        Due.due("next", y.ofTimer(0, 2), 200);
        y.ticks(1);
        Due.due("the second one", y.ofLine(0, 10), 2);
        Due.due("next then", y.ofTimer(0, 2), 400);
    }

    private static void firstTickAtZero() {
        Due.by("timer: first: the present one to 500 later (tick 0)");
        InterruptInn x = oneLine();
        Due.due("-1", x.timer(0, 9, -1), Due.BAD_VALUE);
        Due.due("501", x.timer(0, 9, 501), Due.BAD_VALUE);
        Due.due("0", x.timer(0, 9, 0), 0);
        Due.due("500", x.timer(0, 9, 500), 1);
        Due.due("next of the first", x.ofTimer(0, 2), 0);
        Due.due("next of the second", x.ofTimer(1, 2), 500);
    }

    private static void firstTickLater() {
        Due.by("timer: first: the tick in which it raises the line first: the present one to 500 later");
        InterruptInn x = oneLine();
        x.line(3, 1, 0, 0);
        x.ticks(123);
        Due.due("one that has gone by", x.timer(0, 9, 122), Due.BAD_VALUE);
        Due.due("0", x.timer(0, 9, 0), Due.BAD_VALUE);
        Due.due("501 later", x.timer(0, 9, 624), Due.BAD_VALUE);
        Due.due("the present one", x.timer(0, 200, 123), 0);
        Due.due("500 later", x.timer(1, 200, 623), 1);
        Due.due("it has raised nothing yet", x.ofLine(0, 10), 0);
        x.ticks(1);
        Due.due("it raises in the tick 123", x.ofLine(0, 10), 1);
        x.ticks(499);
        Due.due("the other one has raised nothing in 622", x.ofLine(1, 10), 0);
        x.ticks(1);
        Due.due("it raises in the tick 623", x.ofLine(1, 10), 1);
        Due.due("its period later", x.ofTimer(1, 2), 823);
        x.undo();
        x.undo();
        Due.due("the tick counts as it is again", x.timer(0, 9, 124), 2);
    }

    private static void sixTimers() {
        Due.by("timer: TOO_MANY if there are 6 timers");
        InterruptInn x = oneLine();
        for (int timer = 0; timer < 6; timer++) {
            Due.due("timer " + timer, x.timer(0, 50 + timer, 9), timer);
        }
        Due.due("the 7th", x.timer(0, 60, 9), Due.TOO_MANY);
        Due.due("6 timers", x.count(2), 6);
        Due.due("the 6th", x.ofTimer(5, 1), 55);
        Due.due("no 7th", x.ofTimer(6, 1), Due.NO_SUCH);
        Due.due("one is stopped", x.stop(2), 5);
        Due.due("there is room", x.timer(0, 60, 9), 5);
        Due.due("but for one alone", x.timer(0, 61, 9), Due.TOO_MANY);
    }

    private static void timerOfLevelLine() {
        Due.by("timer: NOT_POSSIBLE if it is a level line");
        InterruptInn x = oneLine();
        x.line(3, 1, 0, 1);
        Due.due("level", x.timer(1, 9, 9), Due.NOT_POSSIBLE);
        Due.due("no timer", x.count(2), 0);
        Due.due("edge", x.timer(0, 9, 9), 0);
    }

    private static void noLineForATimer() {
        Due.by("timer: NO_SUCH if there is no such line");
        Due.due("a new object", new InterruptInn().timer(0, 9, 9), Due.NO_SUCH);
        InterruptInn x = oneLine();
        Due.due("-1", x.timer(-1, 9, 9), Due.NO_SUCH);
        Due.due("as many as there are", x.timer(1, 9, 9), Due.NO_SUCH);
        Due.due("the last one", x.timer(0, 9, 9), 0);
        Due.due("its line", x.ofTimer(0, 0), 0);
    }

    private static void severalTimersOfALine() {
        Due.by("Each timer, in ascending order, whose tick has come raises its line");
        InterruptInn x = oneLine();
        for (int timer = 0; timer < 6; timer++) {
            x.timer(0, 10, 0);
        }
        x.ticks(1);
        Due.due("six edges in a tick", x.ofLine(0, 10), 6);
        Due.due("all but the first one are lost", x.ofLine(0, 11), 5);
        for (int timer = 0; timer < 6; timer++) {
            Due.due("a timer whose edge is lost goes on", x.ofTimer(timer, 2), 10);
        }
    }

    private static void noSuchTimer() {
        Due.by("stop: NO_SUCH if there is no such timer");
        Due.due("a new object", new InterruptInn().stop(0), Due.NO_SUCH);
        InterruptInn x = oneLine();
        x.timer(0, 9, 9);
        Due.due("-1", x.stop(-1), Due.NO_SUCH);
        Due.due("as many as there are", x.stop(1), Due.NO_SUCH);
        Due.due("the last one", x.stop(0), 0);
        Due.due("again", x.stop(0), Due.NO_SUCH);
    }

    /** Timer t is one of line t, with the period 50 + t and the first tick 10 + t. */
    private static InterruptInn sixTimersOfSixLines() {
        InterruptInn x = new InterruptInn();
        for (int i = 0; i < 6; i++) {
            x.line(i, 1, 0, 0);
            x.timer(i, 50 + i, 10 + i);
        }
        return x;
    }

    private static void stoppedAheadOfOthers() {
        Due.by("stop: the numbers of the later ones decrease by 1. Returns how many timers there are then");
        for (int stopped = 0; stopped < 6; stopped++) {
            InterruptInn x = sixTimersOfSixLines();
            Due.due("stop " + stopped, x.stop(stopped), 5);
            Due.due("timers", x.count(2), 5);
            for (int timer = 0; timer < 5; timer++) {
                int was = timer < stopped ? timer : timer + 1;
                Due.due("line of " + timer, x.ofTimer(timer, 0), was);
                Due.due("period of " + timer, x.ofTimer(timer, 1), 50 + was);
                Due.due("next of " + timer, x.ofTimer(timer, 2), 10 + was);
            }
            Due.due("no sixth", x.ofTimer(5, 0), Due.NO_SUCH);
        }
    }

    private static void stoppedTimerRaisesNothing() {
        Due.by("stop: Stops a timer");
        for (int stopped = 0; stopped < 6; stopped++) {
            InterruptInn x = sixTimersOfSixLines();
            x.stop(stopped);
            x.ticks(40);
            for (int line = 0; line < 6; line++) {
                Due.due("edges of line " + line, x.ofLine(line, 10), line == stopped ? 0 : 1);
            }
        }
        InterruptInn x = oneLine();
        x.timer(0, 5, 3);
        x.ticks(3);
        x.stop(0);
        x.ticks(1);
        Due.due("stopped in the tick in which it is due", x.ofLine(0, 10), 0);
        Due.due("it raises nothing in a forecast, too", x.beginsIn(0), Due.NONE);
    }

    private static void stoppedToNone() {
        Due.by("stop: Returns how many timers there are then");
        InterruptInn x = sixTimersOfSixLines();
        for (int left = 5; left >= 0; left--) {
            Due.due("stop the first", x.stop(0), left);
        }
        Due.due("none", x.stop(0), Due.NO_SUCH);
        InterruptInn y = sixTimersOfSixLines();
        for (int left = 5; left >= 0; left--) {
            Due.due("stop the last", y.stop(left), left);
        }
    }
}
