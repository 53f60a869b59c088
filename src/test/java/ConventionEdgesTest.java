import java.util.List;
import java.util.function.ToIntFunction;

/** 'Conventions': which error comes first, that an error changes nothing, NONE, divisions, numbers from 0. */
public final class ConventionEdgesTest {
    private static final int BAD_LETTER = 0x7f;

    public static void main(String[] args) {
        firstErrorOfLine();
        firstErrorOfTimer();
        firstErrorOfHold();
        firstErrorOfMaskAndChange();
        firstErrorOfNumbers();
        firstErrorOfGreatestBar();
        firstErrorOfPut();
        firstErrorOfRestore();
        errorsChangeNothing();
        noneIsNoError();
        divisionsAreRoundedDown();
        numberedFromZero();
        tickIsZeroAtFirst();
        Due.finish();
    }

    /** Lines 0 to 10 are edge lines, line 11 is a level line. */
    private static InterruptInn full(int timers) {
        InterruptInn x = new InterruptInn();
        for (int line = 0; line < 12; line++) {
            x.line(1, 1, 0, line == 11 ? 1 : 0);
        }
        for (int timer = 0; timer < timers; timer++) {
            x.timer(timer, 9, 9);
        }
        return x;
    }

    private static void firstErrorOfLine() {
        Due.by("line: BAD_VALUE is named ahead of TOO_MANY");
        InterruptInn x = full(0);
        Due.due("rank", x.line(16, 1, 0, 0), Due.BAD_VALUE);
        Due.due("need", x.line(0, 0, 0, 0), Due.BAD_VALUE);
        Due.due("deadline", x.line(0, 1, 501, 0), Due.BAD_VALUE);
        Due.due("level", x.line(0, 1, 0, 2), Due.BAD_VALUE);
        Due.due("none of them", x.line(0, 1, 0, 0), Due.TOO_MANY);
    }

    private static void firstErrorOfTimer() {
        Due.by("timer: NO_SUCH, BAD_VALUE, TOO_MANY, NOT_POSSIBLE");
        InterruptInn x = full(6);
        Due.due("all but NOT_POSSIBLE", x.timer(12, 0, 0), Due.NO_SUCH);
        Due.due("NO_SUCH and TOO_MANY", x.timer(12, 1, 0), Due.NO_SUCH);
        Due.due("BAD_VALUE, TOO_MANY, NOT_POSSIBLE: period", x.timer(11, 0, 0), Due.BAD_VALUE);
        Due.due("BAD_VALUE, TOO_MANY, NOT_POSSIBLE: first", x.timer(11, 1, 501), Due.BAD_VALUE);
        Due.due("BAD_VALUE and TOO_MANY: period", x.timer(0, 201, 0), Due.BAD_VALUE);
        Due.due("BAD_VALUE and TOO_MANY: first", x.timer(0, 1, -1), Due.BAD_VALUE);
        Due.due("TOO_MANY and NOT_POSSIBLE", x.timer(11, 1, 0), Due.TOO_MANY);
        Due.due("TOO_MANY", x.timer(0, 1, 0), Due.TOO_MANY);
        InterruptInn y = full(5);
        Due.due("NO_SUCH and BAD_VALUE: period", y.timer(-1, 0, 0), Due.NO_SUCH);
        Due.due("NO_SUCH and BAD_VALUE: first", y.timer(-1, 1, 501), Due.NO_SUCH);
        Due.due("BAD_VALUE and NOT_POSSIBLE: period", y.timer(11, 201, 0), Due.BAD_VALUE);
        Due.due("BAD_VALUE and NOT_POSSIBLE: first", y.timer(11, 1, -1), Due.BAD_VALUE);
        Due.due("NOT_POSSIBLE", y.timer(11, 1, 0), Due.NOT_POSSIBLE);
        Due.due("none", y.timer(0, 1, 0), 5);
    }

    private static void firstErrorOfHold() {
        Due.by("hold: NO_SUCH, BAD_VALUE, NOT_POSSIBLE");
        InterruptInn x = full(0);
        Due.due("NO_SUCH and BAD_VALUE: device", x.hold(12, 4, 1), Due.NO_SUCH);
        Due.due("NO_SUCH and BAD_VALUE: up", x.hold(-1, 0, 2), Due.NO_SUCH);
        Due.due("BAD_VALUE and NOT_POSSIBLE: device", x.hold(0, 4, 1), Due.BAD_VALUE);
        Due.due("BAD_VALUE and NOT_POSSIBLE: up", x.hold(0, 0, -1), Due.BAD_VALUE);
        Due.due("NOT_POSSIBLE", x.hold(0, 0, 1), Due.NOT_POSSIBLE);
        Due.due("none", x.hold(11, 0, 1), 1);
    }

    private static void firstErrorOfMaskAndChange() {
        Due.by("mask, change: NO_SUCH is named ahead of BAD_VALUE");
        InterruptInn x = full(0);
        Due.due("mask", x.mask(12, 2), Due.NO_SUCH);
        Due.due("mask", x.mask(-1, -1), Due.NO_SUCH);
        Due.due("change, rank", x.change(12, 16, 1, 0), Due.NO_SUCH);
        Due.due("change, need", x.change(12, 1, 0, 0), Due.NO_SUCH);
        Due.due("change, deadline", x.change(-1, 1, 1, -1), Due.NO_SUCH);
    }

    private static void firstErrorOfNumbers() {
        Due.by("ofLine, ofNest, ofTimer: NO_SUCH is named ahead of BAD_VALUE");
        InterruptInn x = full(6);
        Due.due("ofLine", x.ofLine(12, 17), Due.NO_SUCH);
        Due.due("ofLine", x.ofLine(-1, -1), Due.NO_SUCH);
        Due.due("ofNest", x.ofNest(0, 4), Due.NO_SUCH);
        Due.due("ofNest", x.ofNest(-1, -1), Due.NO_SUCH);
        Due.due("ofTimer", x.ofTimer(6, 3), Due.NO_SUCH);
        Due.due("ofTimer", x.ofTimer(-1, -1), Due.NO_SUCH);
    }

    private static void firstErrorOfGreatestBar() {
        Due.by("greatestBar: NO_SUCH is named ahead of BAD_VALUE");
        InterruptInn x = full(0);
        Due.due("below", x.greatestBar(-1, 0), Due.NO_SUCH);
        Due.due("above", x.greatestBar(12, 201), Due.NO_SUCH);
        Due.due("no lines", new InterruptInn().greatestBar(0, 0), Due.NO_SUCH);
    }

    private static void firstErrorOfPut() {
        Due.by("put: BAD_VALUE is named ahead of TOO_MANY");
        InterruptInn x = new InterruptInn();
        Due.write(x, "u".repeat(80));
        Due.due("no character", x.put(0), Due.BAD_VALUE);
        Due.due("a code", x.put(BAD_LETTER), Due.BAD_VALUE);
        Due.due("a code among others", x.put(0x4141417f41414141L), Due.BAD_VALUE);
        Due.due("a bit above", x.put(0x410041), Due.BAD_VALUE);
        Due.due("none of them", x.put('u'), Due.TOO_MANY);
    }

    private static void firstErrorOfRestore() {
        Due.by("restore: BAD_VALUE is named ahead of NOT_POSSIBLE");
        InterruptInn x = new InterruptInn();
        Due.due("no such slot, in which nothing was saved", x.restore(2), Due.BAD_VALUE);
        Due.due("no such slot, in which nothing was saved", x.restore(-1), Due.BAD_VALUE);
        Due.due("a slot in which nothing was saved", x.restore(1), Due.NOT_POSSIBLE);
    }

    /** In the midst of things, with six timers, something in the pad, six changes to undo, and slot 1 saved. */
    private static InterruptInn amidst() {
        InterruptInn x = Due.busy();
        for (int timer = 2; timer < 6; timer++) {
            x.timer(0, 50 + timer, 30);
        }
        x.save(1);
        x.ticks(4);
        x.mask(2, 1);
        x.set(InterruptInn.GAP, 2);
        x.set(InterruptInn.SWITCH, 3);
        x.change(0, 5, 4, 3);
        x.hold(1, 3, 1);
        Due.write(x, "uA;hB2;t3");
        return x;
    }

    private static void errorsChangeNothing() {
        Due.by("A call that returns an error changes nothing (nor is it recorded)");
        fails("set", Due.BAD_VALUE, x -> x.set(-1, 1));
        fails("set", Due.BAD_VALUE, x -> x.set(7, 1));
        fails("set", Due.BAD_VALUE, x -> x.set(InterruptInn.GAP, 0));
        fails("set", Due.BAD_VALUE, x -> x.set(InterruptInn.DEEPEST, 9));
        fails("line", Due.BAD_VALUE, x -> x.line(16, 1, 1, 0));
        fails("line", Due.BAD_VALUE, x -> x.line(1, 51, 1, 0));
        fails("line", Due.BAD_VALUE, x -> x.line(1, 1, -1, 0));
        fails("line", Due.BAD_VALUE, x -> x.line(1, 1, 1, 2));
        fails("timer", Due.NO_SUCH, x -> x.timer(4, 1, 9));
        fails("timer", Due.BAD_VALUE, x -> x.timer(0, 0, 9));
        fails("timer", Due.BAD_VALUE, x -> x.timer(0, 1, x.count(0) - 1));
        fails("timer", Due.TOO_MANY, x -> x.timer(0, 1, x.count(0)));
        fails("stop", Due.NO_SUCH, x -> x.stop(6));
        fails("stop", Due.NO_SUCH, x -> x.stop(-1));
        fails("raise", Due.NO_SUCH, x -> x.raise(4));
        fails("raise", Due.NOT_POSSIBLE, x -> x.raise(1));
        fails("hold", Due.NO_SUCH, x -> x.hold(4, 0, 1));
        fails("hold", Due.BAD_VALUE, x -> x.hold(1, 4, 1));
        fails("hold", Due.BAD_VALUE, x -> x.hold(1, 0, 2));
        fails("hold", Due.NOT_POSSIBLE, x -> x.hold(0, 0, 1));
        fails("mask", Due.NO_SUCH, x -> x.mask(4, 1));
        fails("mask", Due.BAD_VALUE, x -> x.mask(0, 2));
        fails("change", Due.NO_SUCH, x -> x.change(4, 1, 1, 1));
        fails("change", Due.BAD_VALUE, x -> x.change(0, 16, 1, 1));
        fails("change", Due.BAD_VALUE, x -> x.change(0, 1, 0, 1));
        fails("change", Due.BAD_VALUE, x -> x.change(0, 1, 1, 501));
        fails("ticks", Due.BAD_VALUE, x -> x.ticks(0));
        fails("ticks", Due.BAD_VALUE, x -> x.ticks(501));
        fails("ofLine", Due.NO_SUCH, x -> x.ofLine(4, 0));
        fails("ofNest", Due.NO_SUCH, x -> x.ofNest(8, 0));
        fails("ofTimer", Due.NO_SUCH, x -> x.ofTimer(6, 0));
        fails("count", Due.BAD_VALUE, x -> x.count(19));
        fails("beginsIn", Due.NO_SUCH, x -> x.beginsIn(4));
        fails("missesIn", Due.BAD_VALUE, x -> x.missesIn(501));
        fails("greatestBar", Due.NO_SUCH, x -> x.greatestBar(4, 1));
        fails("greatestBar", Due.BAD_VALUE, x -> x.greatestBar(0, 201));
        fails("bound", Due.NO_SUCH, x -> x.bound(4));
        fails("put", Due.BAD_VALUE, x -> x.put(0));
        fails("put", Due.BAD_VALUE, x -> x.put(BAD_LETTER));
        fails("put", Due.BAD_VALUE, x -> x.put((long) BAD_LETTER << 56 | 0x41414141414141L));
        fails("save", Due.BAD_VALUE, x -> x.save(2));
        fails("save", Due.BAD_VALUE, x -> x.save(-1));
        fails("restore", Due.BAD_VALUE, x -> x.restore(2));
        fails("restore", Due.NOT_POSSIBLE, x -> x.restore(0));
        undoThatFails();
        carryOutThatFails();
        fullThatFails();
    }

    private static void fails(String name, int error, ToIntFunction<InterruptInn> call) {
        InterruptInn x = amidst();
        Due.due(name, call.applyAsInt(x), error);
        goOnAlike(name, x, amidst());
    }

    /** What is seen, what the pad holds, each state of the history, what is saved, and what comes of it all. */
    private static void goOnAlike(String name, InterruptInn x, InterruptInn untouched) {
        Due.due(name + ": seen", Due.seenWithAll(x), Due.seenWithAll(untouched));
        Due.due(name + ": the pad's orders", x.carryOut(), untouched.carryOut());
        Due.due(name + ": seen then", Due.seenWithAll(x), Due.seenWithAll(untouched));
        for (int i = 0; i < 7; i++) {
            Due.due(name + ": undo", x.undo(), untouched.undo());
            Due.due(name + ": undone", Due.seenWithAll(x), Due.seenWithAll(untouched));
        }
        for (int slot = 0; slot < 2; slot++) {
            Due.due(name + ": restore", x.restore(slot), untouched.restore(slot));
            Due.due(name + ": restored", Due.seenWithAll(x), Due.seenWithAll(untouched));
        }
        x.ticks(300);
        untouched.ticks(300);
        Due.due(name + ": later", Due.seenWithAll(x), Due.seenWithAll(untouched));
    }

    private static void undoThatFails() {
        InterruptInn x = amidst();
        InterruptInn untouched = amidst();
        for (int i = 5; i >= 0; i--) {
            x.undo();
            untouched.undo();
        }
        Due.due("undo", x.undo(), Due.NOT_POSSIBLE);
        goOnAlike("undo", x, untouched);
    }

    private static void carryOutThatFails() {
        InterruptInn x = amidst();
        InterruptInn untouched = amidst();
        x.put(';');
        untouched.put(';');
        List<Integer> before = Due.seenWithAll(x);
        Due.due("carryOut", x.carryOut(), Due.BAD_TEXT);
        Due.due("carryOut: seen", Due.seenWithAll(x), before);
        x.put(Due.packed("t9"));
        untouched.put(Due.packed("t9"));
        goOnAlike("carryOut", x, untouched);
    }

    private static void fullThatFails() {
        InterruptInn x = full(5);
        x.timer(2, 7, 3);
        Due.write(x, "t1;".repeat(26) + "t1");
        Due.due("the 13th line", x.line(1, 1, 1, 1), Due.TOO_MANY);
        Due.due("the 81st character", x.put('1'), Due.TOO_MANY);
        InterruptInn untouched = full(5);
        untouched.timer(2, 7, 3);
        Due.write(untouched, "t1;".repeat(26) + "t1");
        goOnAlike("full", x, untouched);
        InterruptInn y = full(5);
        Due.due("a timer of a level line", y.timer(11, 9, 9), Due.NOT_POSSIBLE);
        goOnAlike("level", y, full(5));
    }

    private static void noneIsNoError() {
        Due.by("NONE is returned only if no error applies");
        InterruptInn x = full(0);
        Due.due("waits not", x.ofLine(0, 6), Due.NONE);
        Due.due("waits not, is not there", x.ofLine(12, 6), Due.NO_SUCH);
        Due.due("not in the nest", x.ofLine(0, 8), Due.NONE);
        Due.due("not in the nest, is not there", x.ofLine(-1, 8), Due.NO_SUCH);
        Due.due("begins not", x.beginsIn(0), Due.NONE);
        Due.due("begins not, is not there", x.beginsIn(12), Due.NO_SUCH);
        Due.due("no bar", x.greatestBar(0, 1), Due.NONE);
        Due.due("no bar, no ticks", x.greatestBar(0, 0), Due.BAD_VALUE);
        Due.due("no bar, is not there", x.greatestBar(12, 1), Due.NO_SUCH);
        x.timer(1, 1, 0);
        Due.due("no bound", x.bound(0), Due.NONE);
        Due.due("no bound, is not there", x.bound(12), Due.NO_SUCH);
        Due.due("NONE is a number of its own", InterruptInn.NONE, -6);
    }

    private static void divisionsAreRoundedDown() {
        Due.by("Divisions are rounded down");
        InterruptInn x = new InterruptInn();
        x.line(2, 1, 0, 0);
        x.set(InterruptInn.BAR, 31);
        x.set(InterruptInn.AGE, 3);
        x.raise(0);
        int[] ranks = {2, 2, 2, 3, 3, 3, 4, 4, 4, 5};
        for (int waited = 0; waited < ranks.length; waited++) {
            Due.due("waited " + waited, x.ofLine(0, 7), ranks[waited]);
            x.ticks(1);
        }
    }

    private static void numberedFromZero() {
        Due.by("Everything is numbered from 0, in the order in which it came to be");
        InterruptInn x = new InterruptInn();
        for (int i = 0; i < 3; i++) {
            Due.due("line", x.line(i, 10, 0, 0), i);
            Due.due("timer", x.timer(i, 20 + i, 100 + i), i);
        }
        for (int i = 0; i < 3; i++) {
            Due.due("rank of line", x.ofLine(i, 0), i);
            Due.due("period of timer", x.ofTimer(i, 1), 20 + i);
            x.raise(i);
            x.ticks(1);
            Due.due("place in the nest", x.ofLine(i, 8), i);
            Due.due("line in the nest", x.ofNest(i, 0), i);
        }
    }

    private static void tickIsZeroAtFirst() {
        Due.by("The tick is 0 at first");
        Due.due("count(0)", new InterruptInn().count(0), 0);
        Due.due("save(0)", new InterruptInn().save(0), 0);
        Due.due("ticks(1)", new InterruptInn().ticks(1), 1);
    }
}
