/** Promises 11 to 14: each 'what', the lowest, the greatest, one beyond; what is not there; NONE; a new object. */
public final class NumberEdgesTest {
    public static void main(String[] args) {
        newObject();
        whatOfLine();
        noSuchLine();
        waitsOrNot();
        presentRank();
        placeInTheNest();
        devices();
        edges();
        servicesAndWaits();
        whatOfNest();
        noSuchPlace();
        ticksThatItStillTakes();
        whatOfTimer();
        noSuchTimer();
        whatOfAll();
        found();
        linesThatWait();
        servedTicks();
        deepestSoFar();
        missesOfAll();
        interruptions();
        changesThatCanBeUndone();
        lengthOfThePad();
        settings();
        Due.finish();
    }

    private static void newObject() {
        Due.by("Creates a server without lines and timers");
        InterruptInn x = new InterruptInn();
        int[] want = {0, 0, 0, 0, 0, Due.NONE, 0, 0, 0, 0, 0, 0, 20, 24, 1, 3, 1, 1, 0};
        for (int what = 0; what < want.length; what++) {
            Due.due("count(" + what + ")", x.count(what), want[what]);
        }
        for (int number = -1; number < 13; number++) {
            Due.due("no line", x.ofLine(number, 0), Due.NO_SUCH);
            Due.due("no place", x.ofNest(number, 0), Due.NO_SUCH);
            Due.due("no timer", x.ofTimer(number, 0), Due.NO_SUCH);
        }
        InterruptInn other = Due.with(1, 2);
        other.raise(0);
        Due.due("nothing of another object", x.count(1), 0);
    }

    private static void whatOfLine() {
        Due.by("ofLine: BAD_VALUE if what is out of range");
        InterruptInn x = Due.with(7);
        Due.due("-1", x.ofLine(0, -1), Due.BAD_VALUE);
        Due.due("0", x.ofLine(0, 0), 7);
        Due.due("16", x.ofLine(0, 16), 0);
        Due.due("17", x.ofLine(0, 17), Due.BAD_VALUE);
    }

    private static void noSuchLine() {
        Due.by("ofLine: NO_SUCH if there is no such line");
        InterruptInn x = Due.with(7, 8);
        Due.due("-1", x.ofLine(-1, 0), Due.NO_SUCH);
        Due.due("the last one", x.ofLine(1, 0), 8);
        Due.due("as many as there are", x.ofLine(2, 0), Due.NO_SUCH);
        x.undo();
        Due.due("one that is undone", x.ofLine(1, 0), Due.NO_SUCH);
    }

    private static void waitsOrNot() {
        Due.by("6 the ticks that it has waited (NONE if it does not wait)");
        InterruptInn x = Due.with(7);
        Due.due("does not wait", x.ofLine(0, 6), Due.NONE);
        Due.due("5: whether it waits", x.ofLine(0, 5), 0);
        x.raise(0);
        Due.due("waits for 0 ticks", x.ofLine(0, 6), 0);
        Due.due("5: whether it waits", x.ofLine(0, 5), 1);
        x.ticks(1);
        Due.due("begun", x.ofLine(0, 6), Due.NONE);
        Due.due("5: whether it waits", x.ofLine(0, 5), 0);
        x.raise(0);
        x.ticks(2);
        Due.due("waits in the nest", x.ofLine(0, 6), 2);
        Due.due("5: whether it waits", x.ofLine(0, 5), 1);
    }

    private static void presentRank() {
        Due.by("7 its present rank (its rank if it does not wait)");
        InterruptInn x = Due.with(7);
        x.set(InterruptInn.AGE, 1);
        Due.due("does not wait", x.ofLine(0, 7), 7);
        x.mask(0, 1);
        x.raise(0);
        Due.due("waited 0", x.ofLine(0, 7), 7);
        x.ticks(4);
        Due.due("waited 4", x.ofLine(0, 7), 11);
        Due.due("0: its rank", x.ofLine(0, 0), 7);
        x.mask(0, 0);
        x.ticks(1);
        Due.due("in the nest with 11, its own is 7", x.ofLine(0, 7), 7);
        x.ticks(9);
        Due.due("ended", x.ofLine(0, 7), 7);
    }

    private static void placeInTheNest() {
        Due.by("8 its place in the nest, from 0 for the lowest one (NONE if it is not there)");
        InterruptInn x = Due.with(3, 5, 9);
        Due.due("not there", x.ofLine(0, 8), Due.NONE);
        x.raise(0);
        Due.due("waits", x.ofLine(0, 8), Due.NONE);
        x.ticks(1);
        Due.due("the lowest one", x.ofLine(0, 8), 0);
        x.raise(1);
        x.ticks(1);
        Due.due("above it", x.ofLine(1, 8), 1);
        Due.due("the lowest one still", x.ofLine(0, 8), 0);
        Due.due("not there", x.ofLine(2, 8), Due.NONE);
        x.ticks(5);
        Due.due("ended", x.ofLine(1, 8), Due.NONE);
        Due.due("left", x.ofLine(0, 8), 0);
    }

    private static void devices() {
        Due.by("9 the set of devices that hold it up");
        InterruptInn x = Due.with(3);
        x.line(1, 5, 0, 1);
        Due.due("of an edge line", x.ofLine(0, 9), 0);
        Due.due("none", x.ofLine(1, 9), 0);
        x.hold(1, 3, 1);
        Due.due("the fourth", x.ofLine(1, 9), 8);
        for (int device = 0; device < 3; device++) {
            x.hold(1, device, 1);
        }
        Due.due("all", x.ofLine(1, 9), 15);
        Due.due("3: whether it is a level line", x.ofLine(1, 3), 1);
        Due.due("3: an edge line", x.ofLine(0, 3), 0);
    }

    private static void edges() {
        Due.by("10 the edges that came, 11 those that were lost");
        InterruptInn x = Due.with(3);
        x.line(1, 5, 0, 1);
        x.raise(0);
        Due.due("one came", x.ofLine(0, 10), 1);
        Due.due("none is lost", x.ofLine(0, 11), 0);
        x.raise(0);
        Due.due("two came", x.ofLine(0, 10), 2);
        Due.due("one of them is lost", x.ofLine(0, 11), 1);
        x.hold(1, 0, 1);
        x.hold(1, 0, 1);
        Due.due("a level line has none", x.ofLine(1, 10), 0);
        Due.due("and loses none", x.ofLine(1, 11), 0);
    }

    private static void servicesAndWaits() {
        Due.by("12 services that began, 13 ended, 14 the longest wait ahead of one that began, 15 all these waits");
        InterruptInn x = Due.with(3, 9);
        x.set(InterruptInn.DEEPEST, 1);
        x.raise(1);
        x.ticks(1);
        x.raise(0);
        x.ticks(3);
        Due.due("a wait that goes on is none of them", x.ofLine(0, 14), 0);
        Due.due("nor of the sum", x.ofLine(0, 15), 0);
        x.ticks(3);
        Due.due("began", x.ofLine(0, 12), 1);
        Due.due("has not ended", x.ofLine(0, 13), 0);
        Due.due("waited", x.ofLine(0, 14), 5);
        x.raise(0);
        x.ticks(5);
        Due.due("ended", x.ofLine(0, 13), 1);
        x.ticks(1);
        Due.due("began again, having waited as long", x.ofLine(0, 12), 2);
        Due.due("the longest", x.ofLine(0, 14), 5);
        Due.due("both", x.ofLine(0, 15), 10);
        x.ticks(5);
        x.raise(0);
        x.ticks(2);
        Due.due("a shorter wait, that of 0", x.ofLine(0, 14), 5);
        Due.due("all three", x.ofLine(0, 15), 10);
        x.ticks(2);
        x.raise(0);
        x.ticks(3);
        Due.due("a shorter wait, that of 2", x.ofLine(0, 14), 5);
        Due.due("all four", x.ofLine(0, 15), 12);
    }

    private static void whatOfNest() {
        Due.by("ofNest: BAD_VALUE if what is out of range");
        InterruptInn x = Due.with(3, 7);
        x.ticks(6);
        x.raise(1);
        x.ticks(1);
        Due.due("-1", x.ofNest(0, -1), Due.BAD_VALUE);
        Due.due("0 its line", x.ofNest(0, 0), 1);
        Due.due("1 its rank", x.ofNest(0, 1), 7);
        Due.due("3 the tick in which it began", x.ofNest(0, 3), 6);
        Due.due("4", x.ofNest(0, 4), Due.BAD_VALUE);
    }

    private static void noSuchPlace() {
        Due.by("ofNest: NO_SUCH if there is no such place");
        InterruptInn x = Due.with(3, 7);
        Due.due("an empty nest", x.ofNest(0, 0), Due.NO_SUCH);
        x.raise(0);
        Due.due("it waits", x.ofNest(0, 0), Due.NO_SUCH);
        x.ticks(1);
        x.raise(1);
        x.ticks(1);
        Due.due("-1", x.ofNest(-1, 0), Due.NO_SUCH);
        Due.due("the top", x.ofNest(1, 0), 1);
        Due.due("as many as there are", x.ofNest(2, 0), Due.NO_SUCH);
        Due.due("0 is the lowest one", x.ofNest(0, 0), 0);
        x.ticks(5);
        Due.due("the top has ended", x.ofNest(1, 0), Due.NO_SUCH);
        x.ticks(5);
        Due.due("all have ended", x.ofNest(0, 0), Due.NO_SUCH);
    }

    private static void ticksThatItStillTakes() {
        Due.by("2 the ticks that it still takes");
        InterruptInn x = Due.with(3);
        x.raise(0);
        for (int left = 5; left >= 1; left--) {
            x.ticks(1);
            Due.due("left", x.ofNest(0, 2), left);
        }
        x.ticks(1);
        Due.due("0 are not seen", x.ofNest(0, 2), Due.NO_SUCH);
    }

    private static void whatOfTimer() {
        Due.by("ofTimer: BAD_VALUE if what is out of range");
        InterruptInn x = Due.with(3, 7);
        x.timer(1, 9, 4);
        Due.due("-1", x.ofTimer(0, -1), Due.BAD_VALUE);
        Due.due("0 its line", x.ofTimer(0, 0), 1);
        Due.due("1 its period", x.ofTimer(0, 1), 9);
        Due.due("2 the tick in which it raises the line next", x.ofTimer(0, 2), 4);
        Due.due("3", x.ofTimer(0, 3), Due.BAD_VALUE);
        x.ticks(4);
        Due.due("2 in that tick, ahead of it", x.ofTimer(0, 2), 4);
        x.ticks(1);
        Due.due("2 behind it", x.ofTimer(0, 2), 13);
    }

    private static void noSuchTimer() {
        Due.by("ofTimer: NO_SUCH if there is no such timer");
        InterruptInn x = Due.with(3);
        Due.due("none", x.ofTimer(0, 0), Due.NO_SUCH);
        x.timer(0, 9, 4);
        x.timer(0, 8, 4);
        Due.due("-1", x.ofTimer(-1, 0), Due.NO_SUCH);
        Due.due("the last one", x.ofTimer(1, 1), 8);
        Due.due("as many as there are", x.ofTimer(2, 0), Due.NO_SUCH);
        x.stop(1);
        Due.due("one that is stopped", x.ofTimer(1, 0), Due.NO_SUCH);
    }

    private static void whatOfAll() {
        Due.by("count: BAD_VALUE if what is out of range");
        InterruptInn x = Due.with(3);
        x.ticks(8);
        x.set(InterruptInn.BAR, 9);
        Due.due("-1", x.count(-1), Due.BAD_VALUE);
        Due.due("0 the tick", x.count(0), 8);
        Due.due("18 BAR", x.count(18), 9);
        Due.due("19", x.count(19), Due.BAD_VALUE);
    }

    private static void found() {
        Due.by("5 the line that would be found now (whether it can begin or not; NONE if there is none)");
        InterruptInn x = Due.with(3, 3);
        Due.due("none waits", x.count(5), Due.NONE);
        x.raise(0);
        Due.due("one waits", x.count(5), 0);
        x.ticks(1);
        Due.due("it has begun", x.count(5), Due.NONE);
        x.raise(1);
        Due.due("one that cannot begin", x.count(5), 1);
        x.mask(1, 1);
        Due.due("one that is masked", x.count(5), Due.NONE);
        x.mask(1, 0);
        x.set(InterruptInn.BAR, 4);
        Due.due("one below BAR", x.count(5), Due.NONE);
        Due.by("5 .. timers that are due having raised nothing yet");
        InterruptInn y = Due.with(3);
        y.timer(0, 9, 0);
        Due.due("due now", y.count(5), Due.NONE);
        y.ticks(10);
        Due.due("due again", y.ofTimer(0, 2), 18);
        y.ticks(8);
        Due.due("due in this tick", y.count(5), Due.NONE);
        y.set(InterruptInn.BAR, 4);
        y.ticks(1);
        y.set(InterruptInn.BAR, 0);
        Due.due("it has raised", y.count(5), 0);
    }

    private static void linesThatWait() {
        Due.by("4 the set of lines that wait");
        InterruptInn x = Due.with(0, 0, 0, 0, 0, 0, 0, 0, 0, 0, 0, 0);
        Due.due("none", x.count(4), 0);
        x.raise(11);
        Due.due("the last one", x.count(4), 2048);
        x.mask(11, 1);
        Due.due("masked it waits, too", x.count(4), 2048);
        for (int line = 0; line < 11; line++) {
            x.raise(line);
        }
        Due.due("all", x.count(4), 4095);
        x.ticks(1);
        Due.due("the first one has begun", x.count(4), 4094);
        x.raise(0);
        Due.due("it waits in the nest", x.count(4), 4095);
    }

    private static void servedTicks() {
        Due.by("6 ticks in which something was served (those of SWITCH, too)");
        InterruptInn x = Due.with(1, 2);
        x.ticks(5);
        Due.due("nothing", x.count(6), 0);
        x.raise(0);
        x.ticks(1);
        Due.due("a tick of SWITCH", x.count(6), 1);
        x.raise(1);
        x.ticks(1);
        Due.due("one tick, though two are in the nest", x.count(6), 2);
        x.ticks(100);
        Due.due("all", x.count(6), 12);
    }

    private static void deepestSoFar() {
        Due.by("7 the deepest nest so far");
        InterruptInn x = Due.with(1, 2, 3);
        Due.due("none", x.count(7), 0);
        x.raise(0);
        Due.due("one waits", x.count(7), 0);
        x.ticks(1);
        Due.due("one", x.count(7), 1);
        x.raise(1);
        x.ticks(1);
        x.raise(2);
        x.ticks(1);
        Due.due("three", x.count(7), 3);
        x.ticks(100);
        Due.due("none is left", x.count(7), 3);
        x.raise(0);
        x.ticks(1);
        Due.due("one again", x.count(7), 3);
        x.raise(1);
        x.ticks(1);
        Due.due("two again", x.count(7), 3);
        Due.due("services in the nest", x.count(3), 2);
        InterruptInn y = new InterruptInn();
        y.line(1, 1, 0, 0);
        y.set(InterruptInn.SWITCH, 0);
        y.raise(0);
        y.ticks(1);
        Due.due("one that ended in the tick in which it began", y.count(7), 1);
    }

    private static void missesOfAll() {
        Due.by("8 misses of all lines");
        InterruptInn x = new InterruptInn();
        for (int line = 0; line < 12; line++) {
            x.line(1, 1, 1, 0);
            x.raise(line);
        }
        x.ticks(1);
        Due.due("the first one is in time", x.count(8), 0);
        for (int begun = 2; begun <= 12; begun++) {
            x.ticks(2);
            Due.due("begun: " + begun, x.count(8), begun - 1);
        }
        Due.due("of the last one", x.ofLine(11, 16), 1);
        Due.due("of the first one", x.ofLine(0, 16), 0);
    }

    private static void interruptions() {
        Due.by("9 services that interrupted another one so far");
        InterruptInn x = Due.with(1, 2, 3);
        x.raise(0);
        x.ticks(1);
        Due.due("the empty nest", x.count(9), 0);
        x.raise(1);
        x.ticks(1);
        Due.due("one", x.count(9), 1);
        x.raise(2);
        x.ticks(1);
        Due.due("two", x.count(9), 2);
        x.ticks(100);
        Due.due("two so far", x.count(9), 2);
        x.raise(2);
        x.ticks(1);
        Due.due("the empty nest again", x.count(9), 2);
        x.raise(1);
        x.ticks(6);
        Due.due("the next one after it interrupted nothing", x.count(9), 2);
    }

    private static void changesThatCanBeUndone() {
        Due.by("11 how many changes can be undone");
        InterruptInn x = new InterruptInn();
        Due.due("none", x.count(11), 0);
        for (int i = 1; i <= 8; i++) {
            x.ticks(1);
            Due.due("changes " + i, x.count(11), Math.min(i, 6));
        }
        for (int i = 5; i >= 0; i--) {
            x.undo();
            Due.due("undone", x.count(11), i);
        }
        x.undo();
        Due.due("none", x.count(11), 0);
    }

    private static void lengthOfThePad() {
        Due.by("10 the length of the pad");
        InterruptInn x = new InterruptInn();
        Due.due("empty", x.count(10), 0);
        for (int length = 8; length <= 80; length += 8) {
            x.put(Due.packed("t1;t1;t1"));
            Due.due("length", x.count(10), length);
        }
        x.put('t');
        Due.due("full", x.count(10), 80);
        x.wipe();
        Due.due("empty", x.count(10), 0);
    }

    private static void settings() {
        Due.by("12 to 18 the settings");
        InterruptInn x = new InterruptInn();
        int[] values = {11, 12, 3, 4, 5, 0, 16};
        for (int setting = 0; setting < 7; setting++) {
            x.set(setting, values[setting]);
        }
        for (int setting = 0; setting < 7; setting++) {
            Due.due("count(" + (12 + setting) + ")", x.count(12 + setting), values[setting]);
        }
        int[] named = {InterruptInn.AGE, InterruptInn.CAP, InterruptInn.GAP, InterruptInn.DEEPEST, InterruptInn.SWITCH,
            InterruptInn.KEEP, InterruptInn.BAR};
        for (int setting = 0; setting < 7; setting++) {
            Due.due("the constant of setting " + setting, named[setting], setting);
        }
        int[] errors = {InterruptInn.NO_SUCH, InterruptInn.BAD_VALUE, InterruptInn.BAD_TEXT, InterruptInn.TOO_MANY,
            InterruptInn.NOT_POSSIBLE, InterruptInn.NONE};
        for (int i = 0; i < errors.length; i++) {
            Due.due("the constant of error " + i, errors[i], -1 - i);
        }
    }
}
