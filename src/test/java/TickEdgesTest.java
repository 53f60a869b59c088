/** 'Lines', 'A tick' and promises 6 to 10: an edge, a device, a wait, a service and a tick at their edges. */
public final class TickEdgesTest {
    public static void main(String[] args) {
        noSuchLine();
        wrongKindOfLine();
        edgeWhileItWaits();
        edgeWhileMasked();
        edgeInTheNest();
        waitInTheNestGrows();
        devicesAtFirst();
        deviceEnds();
        deviceThatHoldsAlready();
        deviceThatHoldsNothing();
        lastDeviceLetsGoAhead();
        holdInTheNest();
        levelLineWithNoneLeft();
        lastDeviceOfALevelLine();
        oneOfTwoDevices();
        lowestDeviceLetsGo();
        lowestDeviceOfAMaskedLine();
        maskEnds();
        maskLeavesTheNest();
        maskedLinesGrow();
        changeEnds();
        changeInTheNest();
        changeOfAWaitingLine();
        ticksEnds();
        ticksOfNothing();
        greatestPresentRank();
        equalPresentRanks();
        equalPresentRanksAndWaits();
        emptyNestTakesAnyRank();
        oneBeginsInATick();
        beginsWithItsPresentRank();
        beginsInTheTickOfItsEdge();
        deadlineOfZero();
        waitAsLongAsTheDeadline();
        endsWithItsLastTick();
        endsInTheTickInWhichItBegan();
        waitsCountFromTheirTick();
        timerInTheNest();
        timerOfAMaskedLine();
        Due.finish();
    }

    private static InterruptInn level(int need) {
        InterruptInn x = new InterruptInn();
        x.line(1, need, 0, 1);
        x.set(InterruptInn.SWITCH, 0);
        return x;
    }

    private static void noSuchLine() {
        Due.by("raise, hold, mask, change: NO_SUCH if there is no such line");
        InterruptInn none = new InterruptInn();
        InterruptInn two = Due.with(1, 1);
        InterruptInn twelve = Due.with(1, 1, 1, 1, 1, 1, 1, 1, 1, 1, 1, 1);
        InterruptInn[] objects = {none, none, two, two, twelve, twelve};
        int[] lines = {-1, 0, -1, 2, -1, 12};
        for (int i = 0; i < lines.length; i++) {
            Due.due("raise(" + lines[i] + ")", objects[i].raise(lines[i]), Due.NO_SUCH);
            Due.due("hold(" + lines[i] + ", ..)", objects[i].hold(lines[i], 0, 1), Due.NO_SUCH);
            Due.due("mask(" + lines[i] + ", ..)", objects[i].mask(lines[i], 1), Due.NO_SUCH);
            Due.due("change(" + lines[i] + ", ..)", objects[i].change(lines[i], 1, 1, 1), Due.NO_SUCH);
        }
        Due.due("the last one: raise", two.raise(1), 1);
        Due.due("the last one: mask", two.mask(1, 1), 0);
        Due.due("the last one: change", two.change(1, 3, 1, 1), 1);
        Due.due("the 12th: raise", twelve.raise(11), 1);
        Due.due("the 12th: mask", twelve.mask(11, 1), 0);
        Due.due("the 12th: change", twelve.change(11, 3, 1, 1), 1);
    }

    private static void wrongKindOfLine() {
        Due.by("raise: NOT_POSSIBLE if it is a level line");
        InterruptInn x = Due.with(1);
        x.line(1, 5, 0, 1);
        Due.due("level", x.raise(1), Due.NOT_POSSIBLE);
        Due.due("edge", x.raise(0), 1);
        Due.by("hold: NOT_POSSIBLE if it is an edge line");
        Due.due("edge, up", x.hold(0, 0, 1), Due.NOT_POSSIBLE);
        Due.due("edge, down", x.hold(0, 0, 0), Due.NOT_POSSIBLE);
        Due.due("level", x.hold(1, 0, 1), 1);
    }

    private static void edgeWhileItWaits() {
        Due.by("if it waits already .. this edge is lost");
        InterruptInn x = Due.with(1, 9);
        x.raise(1);
        x.ticks(1);
        Due.due("the first edge", x.raise(0), 1);
        Due.due("the second one", x.raise(0), 0);
        x.ticks(3);
        Due.due("the third one", x.raise(0), 0);
        Due.due("it has waited as long as it had", x.ofLine(0, 6), 3);
        Due.due("came", x.ofLine(0, 10), 3);
        Due.due("lost", x.ofLine(0, 11), 2);
        x.ticks(30);
        Due.due("one service for them all", x.ofLine(0, 12), 1);
        Due.due("the next edge", x.raise(0), 1);
        Due.due("lost none more", x.ofLine(0, 11), 2);
    }

    private static void edgeWhileMasked() {
        Due.by("it is masked and KEEP is 0, this edge is lost; otherwise it waits from then on");
        for (int masked = 0; masked < 2; masked++) {
            for (int keep = 0; keep < 2; keep++) {
                InterruptInn x = Due.with(1);
                x.mask(0, masked);
                x.set(InterruptInn.KEEP, keep);
                int waits = masked == 1 && keep == 0 ? 0 : 1;
                Due.due("masked " + masked + ", KEEP " + keep, x.raise(0), waits);
                Due.due("waits", x.ofLine(0, 5), waits);
                Due.due("came", x.ofLine(0, 10), 1);
                Due.due("lost", x.ofLine(0, 11), 1 - waits);
            }
        }
    }

    private static void edgeInTheNest() {
        Due.by("otherwise it waits from then on (also if it is in the nest)");
        InterruptInn x = Due.with(1);
        x.raise(0);
        x.ticks(2);
        Due.due("in the nest", x.ofLine(0, 8), 0);
        Due.due("an edge", x.raise(0), 1);
        Due.due("waits", x.ofLine(0, 6), 0);
        Due.due("another edge", x.raise(0), 0);
        Due.due("it is in the nest still", x.ofLine(0, 8), 0);
        Due.due("the set of lines that wait", x.count(4), 1);
        Due.by("Of the lines that wait, are not in the nest");
        Due.due("not found", x.count(5), Due.NONE);
        x.set(InterruptInn.AGE, 1);
        x.ticks(3);
        Due.due("does not interrupt itself, grown to 4", x.count(3), 1);
        x.ticks(1);
        Due.due("the first service has ended", x.ofLine(0, 13), 1);
        Due.due("found", x.count(5), 0);
        x.ticks(1);
        Due.due("begins", x.ofLine(0, 12), 2);
        Due.due("having waited", x.ofLine(0, 14), 4);
        Due.due("with its rank", x.ofNest(0, 1), 5);
    }

    private static void waitInTheNestGrows() {
        Due.by("Its present rank is its rank, and .. 1 more for each AGE ticks that it has waited (in the nest, too)");
        InterruptInn x = new InterruptInn();
        x.line(1, 50, 0, 0);
        x.raise(0);
        x.ticks(1);
        x.raise(0);
        x.ticks(19);
        Due.due("19", x.ofLine(0, 7), 1);
        x.ticks(1);
        Due.due("20", x.ofLine(0, 7), 2);
        x.ticks(20);
        Due.due("40", x.ofLine(0, 7), 3);
        Due.due("its service has the rank with which it began", x.ofNest(0, 1), 1);
        x.ticks(11);
        Due.due("the next one has that of its wait", x.ofNest(0, 1), 3);
    }

    private static void devicesAtFirst() {
        Due.by("A level line has 4 devices, each of which holds it up or not (not, at first)");
        InterruptInn x = level(5);
        Due.due("none", x.ofLine(0, 9), 0);
        Due.due("does not wait", x.ofLine(0, 5), 0);
        for (int device = 0; device < 4; device++) {
            Due.due("device " + device, x.hold(0, device, 1), (2 << device) - 1);
        }
        for (int device = 0; device < 4; device++) {
            Due.due("device " + device, x.hold(0, device, 0), 15 - ((2 << device) - 1));
        }
    }

    private static void deviceEnds() {
        Due.by("hold: device: 0 to 3; up: 1 or 0; BAD_VALUE if device or up is out of range");
        InterruptInn x = level(5);
        Due.due("device -1", x.hold(0, -1, 1), Due.BAD_VALUE);
        Due.due("device 4", x.hold(0, 4, 1), Due.BAD_VALUE);
        Due.due("device 32", x.hold(0, 32, 1), Due.BAD_VALUE);
        Due.due("up -1", x.hold(0, 0, -1), Due.BAD_VALUE);
        Due.due("up 2", x.hold(0, 0, 2), Due.BAD_VALUE);
        Due.due("none holds", x.ofLine(0, 9), 0);
        Due.due("device 0", x.hold(0, 0, 1), 1);
        Due.due("device 3", x.hold(0, 3, 1), 9);
        Due.due("device 0, down", x.hold(0, 0, 0), 8);
        Due.due("device 3, down", x.hold(0, 3, 0), 0);
    }

    private static void deviceThatHoldsAlready() {
        Due.by("hold: A device holds a level line up (that it holds up already)");
        InterruptInn x = level(5);
        x.set(InterruptInn.BAR, 31);
        x.hold(0, 1, 1);
        x.ticks(4);
        Due.due("again", x.hold(0, 1, 1), 2);
        Due.due("it has waited as long as it had", x.ofLine(0, 6), 4);
        Due.due("a second device", x.hold(0, 2, 1), 6);
        Due.due("it has waited as long as it had", x.ofLine(0, 6), 4);
        Due.due("once let go", x.hold(0, 1, 0), 4);
        Due.due("it has waited as long as it had", x.ofLine(0, 6), 4);
    }

    private static void deviceThatHoldsNothing() {
        Due.by("hold: or lets go of it (of what it does not hold)");
        InterruptInn x = level(5);
        Due.due("none holds", x.hold(0, 1, 0), 0);
        Due.due("does not wait", x.ofLine(0, 5), 0);
        x.hold(0, 2, 1);
        Due.due("another one holds", x.hold(0, 1, 0), 4);
        Due.due("waits", x.ofLine(0, 5), 1);
        Due.due("all of them are changes", x.count(11), 5);
    }

    private static void lastDeviceLetsGoAhead() {
        Due.by("It waits as long as some device holds it up");
        InterruptInn x = level(5);
        x.set(InterruptInn.BAR, 31);
        x.hold(0, 0, 1);
        x.hold(0, 3, 1);
        x.ticks(5);
        x.hold(0, 0, 0);
        Due.due("one holds", x.ofLine(0, 6), 5);
        x.hold(0, 3, 0);
        Due.due("none holds", x.ofLine(0, 5), 0);
        Due.due("no wait", x.ofLine(0, 6), Due.NONE);
        Due.due("its rank", x.ofLine(0, 7), 1);
        x.ticks(5);
        x.hold(0, 3, 1);
        Due.due("the wait begins with 0", x.ofLine(0, 6), 0);
        x.set(InterruptInn.BAR, 0);
        x.ticks(1);
        Due.due("it began without a wait", x.ofLine(0, 14), 0);
    }

    private static void holdInTheNest() {
        Due.by("It waits as long as some device holds it up and it is not in the nest");
        InterruptInn x = level(5);
        x.hold(0, 1, 1);
        x.ticks(1);
        Due.due("held, in the nest", x.ofLine(0, 5), 0);
        Due.due("no wait", x.ofLine(0, 6), Due.NONE);
        Due.due("another one holds", x.hold(0, 2, 1), 6);
        Due.due("in the nest still", x.ofLine(0, 5), 0);
        Due.due("the set of lines that wait", x.count(4), 0);
        Due.due("one lets go", x.hold(0, 1, 0), 4);
        Due.due("in the nest still", x.ofLine(0, 8), 0);
        Due.due("the other one lets go", x.hold(0, 2, 0), 0);
        Due.due("the service goes on", x.ofNest(0, 2), 4);
    }

    private static void levelLineWithNoneLeft() {
        Due.by("the lowest device that holds it up lets go of it (if there is one)");
        InterruptInn x = level(2);
        x.hold(0, 1, 1);
        x.ticks(1);
        x.hold(0, 1, 0);
        x.ticks(1);
        Due.due("ended", x.ofLine(0, 13), 1);
        Due.due("none holds", x.ofLine(0, 9), 0);
        Due.due("does not wait", x.ofLine(0, 5), 0);
        x.ticks(5);
        Due.due("no other service", x.ofLine(0, 12), 1);
    }

    private static void lastDeviceOfALevelLine() {
        Due.by("the lowest device that holds it up lets go of it (the last one)");
        InterruptInn x = level(2);
        x.hold(0, 3, 1);
        x.ticks(1);
        Due.due("holds while it is served", x.ofLine(0, 9), 8);
        x.ticks(1);
        Due.due("has let go", x.ofLine(0, 9), 0);
        Due.due("does not wait", x.ofLine(0, 5), 0);
        Due.due("not found", x.count(5), Due.NONE);
        x.ticks(5);
        Due.due("one service", x.ofLine(0, 12), 1);
    }

    private static void oneOfTwoDevices() {
        Due.by("if another one holds it up then, it waits from then on");
        InterruptInn x = level(2);
        x.hold(0, 0, 1);
        x.hold(0, 2, 1);
        x.ticks(2);
        Due.due("one holds", x.ofLine(0, 9), 4);
        Due.due("it waits", x.ofLine(0, 5), 1);
        Due.due("one tick, that of the end", x.ofLine(0, 6), 1);
        Due.due("it is not in the nest", x.ofLine(0, 8), Due.NONE);
        x.ticks(1);
        Due.due("begins again", x.ofLine(0, 12), 2);
        Due.due("having waited 1", x.ofLine(0, 15), 1);
        x.ticks(1);
        Due.due("ended twice", x.ofLine(0, 13), 2);
        Due.due("none holds", x.ofLine(0, 9), 0);
        Due.due("waits no more", x.ofLine(0, 5), 0);
    }

    private static void lowestDeviceLetsGo() {
        Due.by("the lowest device that holds it up lets go of it");
        InterruptInn x = level(1);
        for (int device = 3; device >= 0; device--) {
            x.hold(0, device, 1);
        }
        int[] left = {14, 12, 8, 0, 0};
        for (int set : left) {
            x.ticks(1);
            Due.due("left", x.ofLine(0, 9), set);
        }
        Due.due("four services", x.ofLine(0, 13), 4);
        InterruptInn y = level(2);
        y.hold(0, 2, 1);
        y.ticks(1);
        y.hold(0, 0, 1);
        y.ticks(1);
        Due.due("the lowest one then, though it came later", y.ofLine(0, 9), 4);
        InterruptInn z = Due.with(1);
        z.raise(0);
        z.ticks(6);
        Due.due("an edge line has none", z.ofLine(0, 9), 0);
        Due.due("and ends", z.ofLine(0, 13), 1);
    }

    private static void lowestDeviceOfAMaskedLine() {
        Due.by("the lowest device that holds it up lets go of it; .. it waits from then on (masked in the nest)");
        InterruptInn x = level(2);
        x.hold(0, 1, 1);
        x.hold(0, 3, 1);
        x.ticks(1);
        x.mask(0, 1);
        x.ticks(1);
        Due.due("ended", x.ofLine(0, 13), 1);
        Due.due("device 1 let go", x.ofLine(0, 9), 8);
        Due.due("waits for device 3", x.ofLine(0, 6), 1);
        x.ticks(3);
        Due.due("masked, it does not begin", x.ofLine(0, 12), 1);
        Due.due("held still", x.ofLine(0, 9), 8);
        x.mask(0, 0);
        x.ticks(1);
        Due.due("begins after a wait of 4", x.ofLine(0, 14), 4);
        x.mask(0, 1);
        x.ticks(1);
        Due.due("device 3 let go", x.ofLine(0, 9), 0);
        Due.due("waits no more", x.ofLine(0, 5), 0);
    }

    private static void maskEnds() {
        Due.by("mask: is: 1 or 0; BAD_VALUE if is is out of range; Returns whether it was masked (1 or 0)");
        InterruptInn x = Due.with(1);
        Due.due("not, at first", x.ofLine(0, 4), 0);
        Due.due("-1", x.mask(0, -1), Due.BAD_VALUE);
        Due.due("2", x.mask(0, 2), Due.BAD_VALUE);
        Due.due("0 of one that is not", x.mask(0, 0), 0);
        Due.due("1", x.mask(0, 1), 0);
        Due.due("1 again", x.mask(0, 1), 1);
        Due.due("it is", x.ofLine(0, 4), 1);
        Due.due("0", x.mask(0, 0), 1);
        Due.due("it is not", x.ofLine(0, 4), 0);
    }

    private static void maskLeavesTheNest() {
        Due.by("Of the lines that .. are not masked (one that is in the nest already)");
        InterruptInn x = Due.with(1);
        x.raise(0);
        x.ticks(1);
        x.mask(0, 1);
        x.ticks(4);
        Due.due("served on", x.ofNest(0, 2), 1);
        x.raise(0);
        x.ticks(4);
        Due.due("ended", x.ofLine(0, 13), 1);
        Due.due("not begun anew", x.ofLine(0, 12), 1);
        Due.due("waits", x.ofLine(0, 6), 4);
        InterruptInn y = level(5);
        y.mask(0, 1);
        y.hold(0, 0, 1);
        y.ticks(4);
        Due.due("a masked level line waits", y.ofLine(0, 6), 4);
        Due.due("and does not begin", y.ofLine(0, 12), 0);
        Due.due("and is not found", y.count(5), Due.NONE);
    }

    private static void maskedLinesGrow() {
        Due.by("Masked lines that wait grow in rank, too");
        InterruptInn x = Due.with(1);
        x.mask(0, 1);
        x.raise(0);
        x.ticks(19);
        Due.due("19", x.ofLine(0, 7), 1);
        x.ticks(1);
        Due.due("20", x.ofLine(0, 7), 2);
        x.ticks(20);
        Due.due("40", x.ofLine(0, 7), 3);
        x.mask(0, 0);
        x.ticks(1);
        Due.due("in the nest", x.ofNest(0, 1), 3);
    }

    private static void changeEnds() {
        Due.by("change: rank: 0 to 15; need: 1 to 50; deadline: 0 to 500; Returns the previous rank");
        InterruptInn x = Due.with(4);
        Due.due("rank -1", x.change(0, -1, 1, 0), Due.BAD_VALUE);
        Due.due("rank 16", x.change(0, 16, 1, 0), Due.BAD_VALUE);
        Due.due("need 0", x.change(0, 1, 0, 0), Due.BAD_VALUE);
        Due.due("need 51", x.change(0, 1, 51, 0), Due.BAD_VALUE);
        Due.due("deadline -1", x.change(0, 1, 1, -1), Due.BAD_VALUE);
        Due.due("deadline 501", x.change(0, 1, 1, 501), Due.BAD_VALUE);
        Due.due("all least", x.change(0, 0, 1, 0), 4);
        Due.due("all greatest", x.change(0, 15, 50, 500), 0);
        Due.due("rank", x.ofLine(0, 0), 15);
        Due.due("need", x.ofLine(0, 1), 50);
        Due.due("deadline", x.ofLine(0, 2), 500);
        Due.due("the same", x.change(0, 15, 50, 500), 15);
    }

    private static void changeInTheNest() {
        Due.by("change: a service that is in the nest goes on as it began");
        InterruptInn x = Due.with(4, 6);
        x.raise(0);
        x.ticks(2);
        x.change(0, 15, 1, 1);
        Due.due("rank", x.ofNest(0, 1), 4);
        Due.due("ticks", x.ofNest(0, 2), 4);
        x.raise(1);
        x.ticks(1);
        Due.due("6 is above 4", x.ofNest(1, 0), 1);
        x.change(1, 0, 50, 0);
        x.ticks(9);
        Due.due("both have ended", x.count(3), 0);
        Due.due("12 ticks", x.count(6), 12);
        x.raise(0);
        x.ticks(2);
        Due.due("the next one is as changed", x.ofLine(0, 13), 2);
        Due.due("14 ticks", x.count(6), 14);
    }

    private static void changeOfAWaitingLine() {
        Due.by("change: Changes the rank, the need and the deadline of a line (that waits)");
        InterruptInn x = Due.with(4);
        x.set(InterruptInn.BAR, 31);
        x.raise(0);
        x.ticks(20);
        x.change(0, 9, 7, 19);
        Due.due("it waits on", x.ofLine(0, 6), 20);
        Due.due("its rank grows from the new one", x.ofLine(0, 7), 10);
        x.set(InterruptInn.BAR, 10);
        x.ticks(1);
        Due.due("the new need", x.ofNest(0, 2), 7);
        Due.due("the new deadline", x.ofLine(0, 16), 1);
    }

    private static void ticksEnds() {
        Due.by("ticks: 1 to 500; BAD_VALUE if ticks is out of range");
        InterruptInn x = new InterruptInn();
        Due.due("0", x.ticks(0), Due.BAD_VALUE);
        Due.due("-1", x.ticks(-1), Due.BAD_VALUE);
        Due.due("501", x.ticks(501), Due.BAD_VALUE);
        Due.due("no tick", x.count(0), 0);
        Due.due("1", x.ticks(1), 1);
        Due.due("500", x.ticks(500), 501);
        Due.due("500 more", x.ticks(500), 1001);
    }

    private static void ticksOfNothing() {
        Due.by("ticks: Lets ticks pass (in which nothing is there)");
        InterruptInn x = new InterruptInn();
        Due.due("no line", x.ticks(9), 9);
        x.line(1, 1, 1, 0);
        x.line(1, 1, 1, 1);
        Due.due("no line waits", x.ticks(9), 18);
        Due.due("nothing served", x.count(6), 0);
        Due.due("no nest", x.count(7), 0);
        Due.due("nothing found", x.count(5), Due.NONE);
        x.raise(0);
        x.ticks(2);
        Due.due("served", x.count(6), 2);
        Due.due("nothing more to serve", x.ticks(50), 70);
        Due.due("two ticks served", x.count(6), 2);
    }

    private static void greatestPresentRank() {
        Due.by("the one with the greatest present rank is found");
        InterruptInn x = Due.with(4, 5, 3);
        x.set(InterruptInn.AGE, 2);
        x.mask(0, 1);
        x.raise(0);
        x.ticks(3);
        x.mask(0, 0);
        x.raise(1);
        x.raise(2);
        Due.due("4 grown to 5, and 5: the one that has waited longer", x.count(5), 0);
        x.change(1, 6, 5, 0);
        Due.due("6 is greater", x.count(5), 1);
        x.mask(1, 1);
        Due.due("the masked one is not found", x.count(5), 0);
        x.mask(0, 1);
        Due.due("the least one", x.count(5), 2);
        x.mask(2, 1);
        Due.due("none", x.count(5), Due.NONE);
    }

    private static void equalPresentRanks() {
        Due.by("of several the one that has waited the longest");
        InterruptInn x = Due.with(4, 4, 4);
        x.set(InterruptInn.DEEPEST, 1);
        x.line(9, 5, 0, 0);
        x.raise(3);
        x.ticks(1);
        x.raise(2);
        x.ticks(1);
        x.raise(0);
        x.ticks(1);
        x.raise(1);
        int[] order = {2, 0, 1};
        x.ticks(3);
        for (int line : order) {
            Due.due("found", x.count(5), line);
            x.ticks(6);
            Due.due("served", x.ofLine(line, 13), 1);
        }
    }

    private static void equalPresentRanksAndWaits() {
        Due.by("of several the one with the lowest number");
        InterruptInn x = Due.with(4, 4, 4, 4);
        x.set(InterruptInn.DEEPEST, 1);
        for (int line = 3; line >= 0; line--) {
            x.raise(line);
        }
        for (int line = 0; line < 4; line++) {
            Due.due("found", x.count(5), line);
            x.ticks(6);
            Due.due("served", x.ofLine(line, 13), 1);
        }
        InterruptInn y = Due.with(3, 4);
        y.set(InterruptInn.AGE, 0);
        y.set(InterruptInn.BAR, 31);
        y.raise(0);
        y.ticks(9);
        y.raise(1);
        y.set(InterruptInn.BAR, 0);
        Due.due("the rank is ahead of the wait", y.count(5), 1);
        InterruptInn z = Due.with(4, 4);
        z.set(InterruptInn.BAR, 31);
        z.raise(1);
        z.ticks(1);
        z.raise(0);
        z.set(InterruptInn.BAR, 0);
        Due.due("the wait is ahead of the number", z.count(5), 1);
    }

    private static void emptyNestTakesAnyRank() {
        Due.by("If the nest is empty .. it begins");
        InterruptInn x = Due.with(0);
        x.set(InterruptInn.GAP, 9);
        x.raise(0);
        x.ticks(1);
        Due.due("rank 0, GAP 9", x.ofNest(0, 0), 0);
        Due.due("nothing was interrupted", x.count(9), 0);
    }

    private static void oneBeginsInATick() {
        Due.by("the one .. is found; it begins");
        InterruptInn x = Due.with(1, 2, 3);
        for (int line = 0; line < 3; line++) {
            x.raise(line);
        }
        x.ticks(1);
        Due.due("one", x.count(3), 1);
        Due.due("the greatest", x.ofNest(0, 0), 2);
        Due.due("the others wait", x.count(4), 3);
    }

    private static void beginsWithItsPresentRank() {
        Due.by("its service comes on top of the nest, with its present rank .. the line does not wait any more");
        InterruptInn x = Due.with(1);
        x.set(InterruptInn.BAR, 3);
        x.raise(0);
        x.ticks(41);
        Due.due("grown by 2", x.ofNest(0, 1), 3);
        Due.due("the tick in which it began", x.ofNest(0, 3), 40);
        Due.due("waits no more", x.ofLine(0, 5), 0);
        Due.due("its rank then", x.ofLine(0, 7), 1);
        Due.due("found no more", x.count(5), Due.NONE);
    }

    private static void beginsInTheTickOfItsEdge() {
        Due.by("1. Each timer whose tick has come raises its line. 2. Of the lines that wait ..");
        InterruptInn x = Due.with(1);
        x.timer(0, 100, 2);
        x.ticks(2);
        Due.due("not yet", x.ofLine(0, 10), 0);
        Due.due("raises nothing when asked", x.count(5), Due.NONE);
        x.ticks(1);
        Due.due("begun in the tick 2", x.ofNest(0, 3), 2);
        Due.due("served in it", x.ofNest(0, 2), 5);
        Due.due("without a wait", x.ofLine(0, 15), 0);
        Due.due("next", x.ofTimer(0, 2), 102);
    }

    /** The misses of a line that begins when it has waited so long. */
    private static int missesOf(int deadline, int waited) {
        InterruptInn x = new InterruptInn();
        x.line(1, 5, deadline, 0);
        x.mask(0, 1);
        x.raise(0);
        for (int i = 0; i < waited; i++) {
            x.ticks(1);
        }
        x.mask(0, 0);
        x.ticks(1);
        Due.due("waited", x.ofLine(0, 14), waited);
        Due.due("misses of all lines", x.count(8), x.ofLine(0, 16));
        return x.ofLine(0, 16);
    }

    private static void deadlineOfZero() {
        Due.by("If its deadline is above 0 (0 means that there is none)");
        Due.due("waited 0", missesOf(0, 0), 0);
        Due.due("waited 1", missesOf(0, 1), 0);
        Due.due("waited 300", missesOf(0, 300), 0);
    }

    private static void waitAsLongAsTheDeadline() {
        Due.by("and it waited longer than that, this is a miss");
        Due.due("1, waited 0", missesOf(1, 0), 0);
        Due.due("1, waited 1", missesOf(1, 1), 0);
        Due.due("1, waited 2", missesOf(1, 2), 1);
        Due.due("7, waited 6", missesOf(7, 6), 0);
        Due.due("7, waited 7", missesOf(7, 7), 0);
        Due.due("7, waited 8", missesOf(7, 8), 1);
        InterruptInn x = new InterruptInn();
        x.line(1, 5, 7, 0);
        x.mask(0, 1);
        x.raise(0);
        x.ticks(100);
        Due.due("what has not begun is no miss", x.count(8), 0);
        InterruptInn y = new InterruptInn();
        y.line(1, 5, 2, 1);
        y.mask(0, 1);
        y.hold(0, 0, 1);
        y.ticks(3);
        y.mask(0, 0);
        y.ticks(1);
        Due.due("a level line misses, too", y.ofLine(0, 16), 1);
    }

    private static void endsWithItsLastTick() {
        Due.by("The service on top of the nest gets one tick. If it has had all its ticks, it ends (others below it)");
        InterruptInn x = Due.with(1, 2, 3);
        for (int line = 0; line < 3; line++) {
            x.raise(line);
            x.ticks(1);
        }
        x.ticks(4);
        Due.due("one tick is left", x.ofNest(2, 2), 1);
        Due.due("ended", x.ofLine(2, 13), 0);
        x.ticks(1);
        Due.due("it has ended", x.ofLine(2, 13), 1);
        Due.due("two are left", x.count(3), 2);
        Due.due("no third place", x.ofNest(2, 0), Due.NO_SUCH);
        Due.due("the one below got nothing in this tick", x.ofNest(1, 2), 5);
        Due.due("nor did the lowest", x.ofNest(0, 2), 5);
        x.ticks(1);
        Due.due("now it got one", x.ofNest(1, 2), 4);
        Due.due("the lowest none", x.ofNest(0, 2), 5);
        x.ticks(9);
        Due.due("all have ended", x.count(3), 0);
        Due.due("served", x.count(6), 18);
    }

    private static void endsInTheTickInWhichItBegan() {
        Due.by("If it has had all its ticks, it ends (in the tick in which it began)");
        InterruptInn x = new InterruptInn();
        x.line(1, 5, 0, 0);
        x.line(2, 1, 0, 0);
        x.set(InterruptInn.SWITCH, 0);
        x.raise(0);
        x.ticks(1);
        x.raise(1);
        x.ticks(1);
        Due.due("begun", x.ofLine(1, 12), 1);
        Due.due("ended", x.ofLine(1, 13), 1);
        Due.due("one is left", x.count(3), 1);
        Due.due("which got nothing in this tick", x.ofNest(0, 2), 4);
        Due.due("it was interrupted", x.count(9), 1);
    }

    private static void waitsCountFromTheirTick() {
        Due.by("Each line that waits has waited one tick more (also one that began to wait in this tick)");
        InterruptInn x = Due.with(1, 9);
        x.raise(1);
        x.ticks(1);
        x.set(InterruptInn.DEEPEST, 1);
        x.timer(0, 100, 2);
        x.ticks(2);
        Due.due("began to wait in the tick 2", x.ofLine(0, 6), 1);
        x.ticks(1);
        Due.due("a tick later", x.ofLine(0, 6), 2);
        InterruptInn y = level(1);
        y.hold(0, 0, 1);
        Due.due("has waited 0 ticks when it begins to wait", y.ofLine(0, 6), 0);
        y.hold(0, 1, 1);
        y.ticks(1);
        Due.due("began to wait with the end of its service", y.ofLine(0, 6), 1);
    }

    private static void timerInTheNest() {
        Due.by("An edge line is raised by raise(), or by a timer: if it waits already .. this edge is lost");
        InterruptInn x = new InterruptInn();
        x.line(1, 9, 0, 0);
        x.timer(0, 3, 0);
        x.ticks(4);
        Due.due("waits in the nest from the tick 3 on", x.ofLine(0, 6), 1);
        Due.due("none is lost yet", x.ofLine(0, 11), 0);
        x.ticks(3);
        Due.due("that of the tick 6 is lost", x.ofLine(0, 11), 1);
        Due.due("it has waited as long as it had", x.ofLine(0, 6), 4);
        Due.due("three came", x.ofLine(0, 10), 3);
        x.ticks(4);
        Due.due("begun in the tick 10", x.ofNest(0, 3), 10);
        Due.due("having waited from 3 to 10", x.ofLine(0, 14), 7);
    }

    private static void timerOfAMaskedLine() {
        Due.by("An edge line is raised by .. a timer: .. it is masked and KEEP is 0, this edge is lost");
        InterruptInn x = Due.with(1);
        x.timer(0, 4, 0);
        x.mask(0, 1);
        x.set(InterruptInn.KEEP, 0);
        x.ticks(5);
        Due.due("two came", x.ofLine(0, 10), 2);
        Due.due("both are lost", x.ofLine(0, 11), 2);
        Due.due("the timer goes on", x.ofTimer(0, 2), 8);
        x.set(InterruptInn.KEEP, 1);
        x.ticks(4);
        Due.due("kept", x.ofLine(0, 6), 1);
        Due.due("two are lost", x.ofLine(0, 11), 2);
    }
}
