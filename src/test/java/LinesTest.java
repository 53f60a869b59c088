/** Promises 6 to 10: raise, hold, mask, change, ticks, and what 'Lines' and 'A tick' say. */
public final class LinesTest {
    public static void main(String[] args) {
        raising();
        keepAndMask();
        raisingInNest();
        holding();
        holdErrors();
        levelLineIsServedDeviceByDevice();
        waitOfLevelLineStartsAnew();
        masking();
        changing();
        changeLeavesNest();
        tickErrors();
        growing();
        maskedGrows();
        order();
        bar();
        gapAndDepth();
        switching();
        misses();
        timersWithinTick();
        Due.finish();
    }

    private static void raising() {
        InterruptInn x = Due.with(1);
        x.line(2, 5, 0, 1);
        Due.due("raise", x.raise(0), 1);
        Due.due("raise again", x.raise(0), 0);
        Due.due("edges that came", x.ofLine(0, 10), 2);
        Due.due("edges lost", x.ofLine(0, 11), 1);
        Due.due("waits", x.ofLine(0, 5), 1);
        Due.due("waited", x.ofLine(0, 6), 0);
        Due.due("a lost edge is a change", x.count(11), 4);
        Due.due("raise a level line", x.raise(1), Due.NOT_POSSIBLE);
        Due.due("raise none", x.raise(2), Due.NO_SUCH);
        for (int odd : Due.ODD) {
            Due.due("raise odd", x.raise(odd), Due.NO_SUCH);
        }
        Due.due("errors are no changes", x.count(11), 4);
        Due.due("level line has no edges", x.ofLine(1, 10), 0);
    }

    private static void keepAndMask() {
        InterruptInn x = Due.with(1);
        x.mask(0, 1);
        Due.due("masked, kept", x.raise(0), 1);
        Due.due("masked, waits", x.ofLine(0, 5), 1);
        x = Due.with(1);
        x.mask(0, 1);
        x.timer(0, 5, 0);
        x.ticks(1);
        Due.due("masked, kept by timer", x.ofLine(0, 6), 1);
        Due.due("masked, none lost by timer", x.ofLine(0, 11), 0);
        x = Due.with(1);
        x.set(InterruptInn.KEEP, 0);
        Due.due("not masked, not kept", x.raise(0), 1);
        x.mask(0, 1);
        Due.due("still waits", x.ofLine(0, 5), 1);
        x = Due.with(1);
        x.set(InterruptInn.KEEP, 0);
        x.mask(0, 1);
        Due.due("masked, lost", x.raise(0), 0);
        Due.due("masked, lost, waits", x.ofLine(0, 5), 0);
        Due.due("masked, lost, count", x.ofLine(0, 11), 1);
        x.timer(0, 1, 0);
        x.ticks(3);
        Due.due("masked, lost by timer", x.ofLine(0, 11), 4);
        Due.due("masked, came by timer", x.ofLine(0, 10), 4);
        x.hold(0, 0, 1);
        InterruptInn y = new InterruptInn();
        y.line(1, 5, 0, 1);
        y.set(InterruptInn.KEEP, 0);
        y.mask(0, 1);
        y.hold(0, 1, 1);
        Due.due("KEEP is for edges alone", y.ofLine(0, 5), 1);
    }

    private static void raisingInNest() {
        InterruptInn x = Due.with(1);
        x.raise(0);
        x.ticks(1);
        Due.due("in the nest", x.ofLine(0, 8), 0);
        Due.due("does not wait", x.ofLine(0, 5), 0);
        Due.due("raise in the nest", x.raise(0), 1);
        Due.due("waits in the nest", x.ofLine(0, 5), 1);
        Due.due("not found in the nest", x.count(5), Due.NONE);
        x.ticks(4);
        Due.due("waited in the nest", x.ofLine(0, 6), 4);
        Due.due("begins once", x.ofLine(0, 12), 1);
        x.ticks(1);
        Due.due("out of the nest", x.count(3), 0);
        x.ticks(1);
        Due.due("begins again", x.ofLine(0, 12), 2);
        Due.due("longest wait", x.ofLine(0, 14), 5);
    }

    private static void holding() {
        InterruptInn x = new InterruptInn();
        x.line(1, 5, 0, 1);
        Due.due("hold 3", x.hold(0, 3, 1), 8);
        Due.due("hold 0", x.hold(0, 0, 1), 9);
        Due.due("hold 0 again", x.hold(0, 0, 1), 9);
        Due.due("again is a change", x.count(11), 4);
        Due.due("let 1 go", x.hold(0, 1, 0), 9);
        Due.due("let 3 go", x.hold(0, 3, 0), 1);
        Due.due("waits", x.ofLine(0, 5), 1);
        Due.due("let 0 go", x.hold(0, 0, 0), 0);
        Due.due("waits no more", x.ofLine(0, 5), 0);
        Due.due("waited none", x.ofLine(0, 6), Due.NONE);
        x.ticks(3);
        Due.due("nothing begins", x.ofLine(0, 12), 0);
    }

    private static void holdErrors() {
        InterruptInn x = new InterruptInn();
        x.line(1, 5, 0, 1);
        x.line(1, 5, 0, 0);
        Due.due("hold none", x.hold(2, 4, 2), Due.NO_SUCH);
        Due.due("device 4", x.hold(0, 4, 1), Due.BAD_VALUE);
        Due.due("device -1", x.hold(0, -1, 1), Due.BAD_VALUE);
        Due.due("up 2", x.hold(0, 0, 2), Due.BAD_VALUE);
        Due.due("up -1", x.hold(0, 0, -1), Due.BAD_VALUE);
        Due.due("edge line", x.hold(1, 0, 1), Due.NOT_POSSIBLE);
        Due.due("edge line, down", x.hold(1, 0, 0), Due.NOT_POSSIBLE);
        Due.due("value is ahead of edge", x.hold(1, 4, 1), Due.BAD_VALUE);
        Due.due("value is ahead of edge, up", x.hold(1, 0, 2), Due.BAD_VALUE);
        for (int odd : Due.ODD) {
            Due.due("odd line", x.hold(odd, 0, 1), Due.NO_SUCH);
            Due.due("odd device", x.hold(0, odd, 1), Due.BAD_VALUE);
            Due.due("odd up", x.hold(0, 0, odd), Due.BAD_VALUE);
        }
        Due.due("nothing held", x.ofLine(0, 9), 0);
        Due.due("history", x.count(11), 2);
    }

    private static void levelLineIsServedDeviceByDevice() {
        InterruptInn x = new InterruptInn();
        x.line(1, 2, 0, 1);
        x.hold(0, 1, 1);
        x.hold(0, 3, 1);
        x.ticks(1);
        Due.due("begun", x.ofLine(0, 8), 0);
        Due.due("does not wait in the nest", x.ofLine(0, 5), 0);
        Due.due("held still", x.ofLine(0, 9), 10);
        Due.due("one more in the nest", x.hold(0, 0, 1), 11);
        Due.due("does not wait still", x.ofLine(0, 5), 0);
        x.ticks(2);
        Due.due("the lowest lets go", x.ofLine(0, 9), 10);
        Due.due("waits from then on", x.ofLine(0, 6), 1);
        Due.due("ended", x.ofLine(0, 13), 1);
        x.ticks(1);
        Due.due("begins again", x.ofLine(0, 12), 2);
        Due.due("longest wait", x.ofLine(0, 14), 1);
        x.hold(0, 1, 0);
        x.hold(0, 3, 0);
        Due.due("service goes on", x.count(3), 1);
        x.ticks(2);
        Due.due("nobody to let go", x.ofLine(0, 9), 0);
        Due.due("waits no more", x.ofLine(0, 5), 0);
        Due.due("ended twice", x.ofLine(0, 13), 2);
    }

    private static void waitOfLevelLineStartsAnew() {
        InterruptInn x = new InterruptInn();
        x.line(1, 5, 0, 1);
        x.set(InterruptInn.BAR, 31);
        x.hold(0, 1, 1);
        x.ticks(10);
        Due.due("waited", x.ofLine(0, 6), 10);
        x.hold(0, 2, 1);
        x.hold(0, 1, 0);
        Due.due("one device for another", x.ofLine(0, 6), 10);
        x.hold(0, 2, 0);
        x.hold(0, 2, 1);
        Due.due("anew", x.ofLine(0, 6), 0);
        x.ticks(1);
        Due.due("one tick more", x.ofLine(0, 6), 1);
    }

    private static void masking() {
        InterruptInn x = Due.with(4, 2);
        Due.due("mask", x.mask(0, 1), 0);
        Due.due("masked", x.ofLine(0, 4), 1);
        Due.due("mask again", x.mask(0, 1), 1);
        x.raise(0);
        x.raise(1);
        x.ticks(1);
        Due.due("a masked line does not begin", x.ofNest(0, 0), 1);
        Due.due("take it back", x.mask(0, 0), 1);
        Due.due("not masked", x.ofLine(0, 4), 0);
        Due.due("take it back again", x.mask(0, 0), 0);
        x.ticks(1);
        Due.due("it begins", x.ofNest(1, 0), 0);
        Due.due("mask none", x.mask(2, 2), Due.NO_SUCH);
        Due.due("is 2", x.mask(0, 2), Due.BAD_VALUE);
        Due.due("is -1", x.mask(0, -1), Due.BAD_VALUE);
        int history = x.count(11);
        for (int odd : Due.ODD) {
            Due.due("odd line", x.mask(odd, 1), Due.NO_SUCH);
            Due.due("odd is", x.mask(0, odd), Due.BAD_VALUE);
        }
        Due.due("no change", x.count(11), history);
        x.mask(0, 1);
        x.ticks(1);
        Due.due("a masked line stays in the nest", x.ofNest(1, 2), 4);
    }

    private static void changing() {
        InterruptInn x = Due.with(4);
        Due.due("change", x.change(0, 15, 50, 500), 4);
        Due.due("rank", x.ofLine(0, 0), 15);
        Due.due("need", x.ofLine(0, 1), 50);
        Due.due("deadline", x.ofLine(0, 2), 500);
        Due.due("change to least", x.change(0, 0, 1, 0), 15);
        Due.due("rank 16", x.change(0, 16, 1, 0), Due.BAD_VALUE);
        Due.due("rank -1", x.change(0, -1, 1, 0), Due.BAD_VALUE);
        Due.due("need 0", x.change(0, 0, 0, 0), Due.BAD_VALUE);
        Due.due("need 51", x.change(0, 0, 51, 0), Due.BAD_VALUE);
        Due.due("deadline -1", x.change(0, 0, 1, -1), Due.BAD_VALUE);
        Due.due("deadline 501", x.change(0, 0, 1, 501), Due.BAD_VALUE);
        Due.due("change none", x.change(1, 16, 0, -1), Due.NO_SUCH);
        for (int odd : Due.ODD) {
            Due.due("odd line", x.change(odd, 1, 1, 1), Due.NO_SUCH);
            Due.due("odd rank", x.change(0, odd, 1, 1), Due.BAD_VALUE);
            Due.due("odd need", x.change(0, 1, odd, 1), Due.BAD_VALUE);
            Due.due("odd deadline", x.change(0, 1, 1, odd), Due.BAD_VALUE);
        }
        Due.due("rank stays", x.ofLine(0, 0), 0);
        Due.due("need stays", x.ofLine(0, 1), 1);
        Due.due("history", x.count(11), 3);
    }

    private static void changeLeavesNest() {
        InterruptInn x = Due.with(4);
        x.raise(0);
        x.ticks(2);
        x.change(0, 9, 1, 1);
        Due.due("rank in the nest", x.ofNest(0, 1), 4);
        Due.due("ticks in the nest", x.ofNest(0, 2), 4);
        x.ticks(3);
        Due.due("goes on", x.ofNest(0, 2), 1);
        x.raise(0);
        x.ticks(2);
        Due.due("rank of the next", x.ofNest(0, 1), 9);
        Due.due("ticks of the next", x.ofNest(0, 2), 1);
        InterruptInn y = Due.with(4);
        y.mask(0, 1);
        y.raise(0);
        y.ticks(30);
        y.change(0, 7, 5, 9);
        Due.due("waited stays", y.ofLine(0, 6), 30);
        Due.due("present rank grows from the new one", y.ofLine(0, 7), 8);
        y.mask(0, 0);
        y.ticks(1);
        Due.due("the new deadline counts", y.ofLine(0, 16), 1);
    }

    private static void tickErrors() {
        InterruptInn x = new InterruptInn();
        Due.due("ticks(1)", x.ticks(1), 1);
        Due.due("ticks(500)", x.ticks(500), 501);
        Due.due("ticks(0)", x.ticks(0), Due.BAD_VALUE);
        Due.due("ticks(501)", x.ticks(501), Due.BAD_VALUE);
        for (int odd : Due.ODD) {
            Due.due("odd ticks", x.ticks(odd), Due.BAD_VALUE);
        }
        Due.due("tick", x.count(0), 501);
        Due.due("history", x.count(11), 2);
    }

    private static void growing() {
        InterruptInn x = Due.with(5);
        x.set(InterruptInn.BAR, 31);
        x.raise(0);
        x.ticks(19);
        Due.due("19 ticks", x.ofLine(0, 7), 5);
        x.ticks(1);
        Due.due("20 ticks", x.ofLine(0, 7), 6);
        x.set(InterruptInn.AGE, 3);
        Due.due("AGE as it is now", x.ofLine(0, 7), 11);
        x.set(InterruptInn.CAP, 10);
        Due.due("CAP as it is now", x.ofLine(0, 7), 10);
        x.set(InterruptInn.CAP, 5);
        Due.due("rank at CAP", x.ofLine(0, 7), 5);
        x.set(InterruptInn.CAP, 2);
        Due.due("rank above CAP", x.ofLine(0, 7), 5);
        x.set(InterruptInn.CAP, 31);
        x.set(InterruptInn.AGE, 0);
        Due.due("no AGE", x.ofLine(0, 7), 5);
        x.set(InterruptInn.AGE, 1);
        Due.due("AGE 1", x.ofLine(0, 7), 25);
        x.ticks(500);
        Due.due("begun at 31", x.ofLine(0, 14), 26);
        x.set(InterruptInn.BAR, 0);
        Due.due("rank when it does not wait", x.ofLine(0, 7), 5);
    }

    private static void maskedGrows() {
        InterruptInn x = Due.with(5);
        x.mask(0, 1);
        x.raise(0);
        x.ticks(40);
        Due.due("masked, grown", x.ofLine(0, 7), 7);
        x.mask(0, 0);
        x.ticks(1);
        Due.due("rank in the nest", x.ofNest(0, 1), 7);
        Due.due("rank of the line", x.ofLine(0, 7), 5);
    }

    private static void order() {
        InterruptInn x = Due.with(3, 7, 7, 5);
        for (int line = 0; line < 4; line++) {
            x.raise(line);
        }
        Due.due("greatest rank, lowest number", x.count(5), 1);
        x.mask(1, 1);
        x.mask(2, 1);
        x.mask(3, 1);
        x.mask(0, 1);
        x.ticks(2);
        x.undo();
        x.mask(2, 0);
        Due.due("the only one", x.count(5), 2);
        InterruptInn y = Due.with(7, 7, 1);
        y.set(InterruptInn.AGE, 0);
        y.mask(0, 1);
        y.mask(1, 1);
        y.raise(1);
        y.ticks(1);
        y.raise(0);
        y.mask(0, 0);
        y.mask(1, 0);
        Due.due("the longest wait of equal ranks", y.count(5), 1);
        y.ticks(1);
        Due.due("it began", y.ofNest(0, 0), 1);
        InterruptInn z = Due.with(1, 3);
        z.set(InterruptInn.AGE, 1);
        z.mask(0, 1);
        z.raise(0);
        z.ticks(4);
        z.mask(0, 0);
        z.raise(1);
        Due.due("the present rank counts", z.count(5), 0);
    }

    private static void bar() {
        InterruptInn x = Due.with(4, 6);
        x.set(InterruptInn.BAR, 5);
        x.raise(0);
        Due.due("below the bar", x.count(5), Due.NONE);
        x.ticks(1);
        Due.due("does not begin", x.count(3), 0);
        x.set(InterruptInn.BAR, 4);
        Due.due("at the bar", x.count(5), 0);
        x.set(InterruptInn.BAR, 5);
        x.ticks(19);
        Due.due("waited up to the bar", x.count(5), 0);
        x.ticks(1);
        Due.due("begins", x.ofNest(0, 0), 0);
        Due.due("with its present rank", x.ofNest(0, 1), 5);
    }

    private static void gapAndDepth() {
        InterruptInn x = Due.with(4, 5, 6, 7);
        x.set(InterruptInn.GAP, 2);
        x.raise(0);
        x.ticks(1);
        x.raise(1);
        x.ticks(1);
        Due.due("gap 1 of 2", x.count(3), 1);
        Due.due("found all the same", x.count(5), 1);
        x.set(InterruptInn.GAP, 1);
        x.ticks(1);
        Due.due("gap 1 of 1", x.count(3), 2);
        Due.due("on top", x.ofNest(1, 0), 1);
        x.raise(2);
        x.set(InterruptInn.DEEPEST, 2);
        x.ticks(1);
        Due.due("as deep as may be", x.count(3), 2);
        x.set(InterruptInn.DEEPEST, 3);
        x.ticks(1);
        Due.due("one deeper", x.count(3), 3);
        x.raise(3);
        x.ticks(1);
        Due.due("no deeper", x.count(3), 3);
        Due.due("deepest", x.count(7), 3);
        Due.due("interruptions", x.count(9), 2);
        x.ticks(200);
        Due.due("all ended", x.count(3), 0);
        for (int line = 0; line < 4; line++) {
            Due.due("ended", x.ofLine(line, 13), 1);
            Due.due("ended, place", x.ofLine(line, 8), Due.NONE);
        }
        Due.due("served", x.count(6), 24);
        Due.due("deepest stays", x.count(7), 3);
        InterruptInn y = Due.with(0, 1, 2, 3, 4, 5, 6, 7, 8, 9);
        y.set(InterruptInn.DEEPEST, 8);
        for (int line = 0; line < 10; line++) {
            y.raise(line);
            y.ticks(1);
        }
        Due.due("eight deep", y.count(3), 8);
        Due.due("the top", y.ofNest(7, 0), 7);
        Due.due("the place of the top", y.ofLine(7, 8), 7);
        Due.due("the ninth waits", y.ofLine(8, 6), 2);
    }

    private static void switching() {
        InterruptInn x = new InterruptInn();
        x.line(1, 1, 0, 0);
        x.set(InterruptInn.SWITCH, 0);
        x.raise(0);
        x.ticks(1);
        Due.due("a tick is enough", x.ofLine(0, 13), 1);
        Due.due("it was in the nest", x.count(7), 1);
        Due.due("served", x.count(6), 1);
        x.set(InterruptInn.SWITCH, 9);
        x.raise(0);
        x.ticks(9);
        Due.due("one tick left", x.ofNest(0, 2), 1);
        Due.due("begun", x.ofNest(0, 3), 1);
        x.set(InterruptInn.SWITCH, 0);
        x.ticks(1);
        Due.due("ended", x.count(3), 0);
        Due.due("served with SWITCH", x.count(6), 11);
    }

    private static void misses() {
        InterruptInn x = new InterruptInn();
        x.line(1, 1, 5, 0);
        x.line(1, 1, 0, 0);
        x.mask(0, 1);
        x.mask(1, 1);
        x.raise(0);
        x.raise(1);
        x.ticks(5);
        x.mask(0, 0);
        x.ticks(1);
        Due.due("in time", x.ofLine(0, 16), 0);
        Due.due("longest", x.ofLine(0, 14), 5);
        x.mask(0, 1);
        x.raise(0);
        x.ticks(6);
        x.mask(0, 0);
        x.ticks(1);
        Due.due("missed", x.ofLine(0, 16), 1);
        Due.due("all misses", x.count(8), 1);
        Due.due("longest now", x.ofLine(0, 14), 6);
        Due.due("all waits", x.ofLine(0, 15), 11);
        Due.due("begun", x.ofLine(0, 12), 2);
        x.ticks(5);
        x.mask(1, 0);
        x.ticks(1);
        Due.due("no deadline", x.ofLine(1, 16), 0);
        Due.due("no deadline, longest", x.ofLine(1, 14), 18);
        x.raise(0);
        x.ticks(5);
        Due.due("the longest stays", x.ofLine(0, 14), 6);
    }

    private static void timersWithinTick() {
        InterruptInn x = new InterruptInn();
        x.line(1, 2, 0, 0);
        x.timer(0, 3, 0);
        x.timer(0, 3, 0);
        x.ticks(1);
        Due.due("the first timer's edge", x.ofLine(0, 12), 1);
        Due.due("the second timer's is lost", x.ofLine(0, 11), 1);
        Due.due("it begins in the tick of the edge", x.ofNest(0, 3), 0);
        Due.due("without a wait", x.ofLine(0, 15), 0);
        x.ticks(3);
        Due.due("came", x.ofLine(0, 10), 4);
        Due.due("lost", x.ofLine(0, 11), 2);
        Due.due("again without a wait", x.ofLine(0, 15), 0);
        Due.due("begun twice", x.ofLine(0, 12), 2);
    }
}
