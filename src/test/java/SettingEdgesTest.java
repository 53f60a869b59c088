/** 'Settings': each one's least and greatest value, and what it does at its edges. */
public final class SettingEdgesTest {
    public static void main(String[] args) {
        rangesAndFirstValues();
        noSuchSetting();
        previousValue();
        ageOfZero();
        ageOfOneAndOf100();
        capAtAndAboveTheRank();
        capOfZeroAndOf31();
        ageAndCapCountWhenAsked();
        gapOfOneAndOfNine();
        gapIsAboveTheRankInTheNest();
        deepestOfOne();
        deepestOfEight();
        deepestBelowTheNest();
        switchOfZero();
        switchOfNine();
        switchStaysInTheNest();
        keepOfZero();
        keepOfOne();
        keepIsForEdgesAlone();
        barOfZeroAndOf31();
        barIsReachedByWaiting();
        barIsForAnEmptyNestToo();
        barLeavesTheNest();
        Due.finish();
    }

    private static void range(String words, int setting, int least, int most, int first) {
        Due.by(words);
        InterruptInn x = new InterruptInn();
        Due.due("first value", x.count(12 + setting), first);
        Due.due("one below", x.set(setting, least - 1), Due.BAD_VALUE);
        Due.due("one above", x.set(setting, most + 1), Due.BAD_VALUE);
        Due.due("still the first value", x.count(12 + setting), first);
        Due.due("least", x.set(setting, least), first);
        Due.due("it is the least", x.count(12 + setting), least);
        Due.due("greatest", x.set(setting, most), least);
        Due.due("it is the greatest", x.count(12 + setting), most);
        for (int other = 0; other < 7; other++) {
            if (other != setting) {
                Due.due("another one", x.count(12 + other), new InterruptInn().count(12 + other));
            }
        }
    }

    private static void rangesAndFirstValues() {
        range("AGE (0 to 100; 20)", 0, 0, 100, 20);
        range("CAP (0 to 31; 24)", 1, 0, 31, 24);
        range("GAP (1 to 9; 1)", 2, 1, 9, 1);
        range("DEEPEST (1 to 8; 3)", 3, 1, 8, 3);
        range("SWITCH (0 to 9; 1)", 4, 0, 9, 1);
        range("KEEP (0 or 1; 1)", 5, 0, 1, 1);
        range("BAR (0 to 31; 0)", 6, 0, 31, 0);
    }

    private static void noSuchSetting() {
        Due.by("set: BAD_VALUE if there is no such setting");
        InterruptInn x = new InterruptInn();
        Due.due("set(-1, 1)", x.set(-1, 1), Due.BAD_VALUE);
        Due.due("set(7, 1)", x.set(7, 1), Due.BAD_VALUE);
        Due.due("set(0, 1)", x.set(0, 1), 20);
        Due.due("set(6, 1)", x.set(6, 1), 0);
    }

    private static void previousValue() {
        Due.by("set: Returns the previous value");
        InterruptInn x = new InterruptInn();
        Due.due("the first value", x.set(InterruptInn.CAP, 9), 24);
        Due.due("the same value", x.set(InterruptInn.CAP, 9), 9);
        Due.due("another one", x.set(InterruptInn.CAP, 0), 9);
        Due.due("0", x.set(InterruptInn.CAP, 31), 0);
    }

    private static void ageOfZero() {
        Due.by("if AGE is above 0");
        InterruptInn x = Due.with(3);
        x.mask(0, 1);
        x.raise(0);
        x.set(InterruptInn.AGE, 0);
        x.ticks(500);
        Due.due("waited 500", x.ofLine(0, 6), 500);
        Due.due("has not grown", x.ofLine(0, 7), 3);
        x.set(InterruptInn.BAR, 3);
        Due.due("does without the division elsewhere, too", x.beginsIn(0), Due.NONE);
        x.mask(0, 0);
        Due.due("is found", x.count(5), 0);
        x.ticks(1);
        Due.due("begins with its rank", x.ofNest(0, 1), 3);
    }

    private static void ageOfOneAndOf100() {
        Due.by("1 more for each AGE ticks that it has waited");
        InterruptInn x = Due.with(3);
        x.mask(0, 1);
        x.raise(0);
        x.set(InterruptInn.AGE, 100);
        x.ticks(99);
        Due.due("AGE 100, waited 99", x.ofLine(0, 7), 3);
        x.ticks(1);
        Due.due("AGE 100, waited 100", x.ofLine(0, 7), 4);
        x.ticks(99);
        Due.due("AGE 100, waited 199", x.ofLine(0, 7), 4);
        x.ticks(1);
        Due.due("AGE 100, waited 200", x.ofLine(0, 7), 5);
        InterruptInn y = Due.with(3);
        y.mask(0, 1);
        y.raise(0);
        y.set(InterruptInn.AGE, 1);
        Due.due("AGE 1, waited 0", y.ofLine(0, 7), 3);
        y.ticks(1);
        Due.due("AGE 1, waited 1", y.ofLine(0, 7), 4);
        y.ticks(19);
        Due.due("AGE 1, waited 20", y.ofLine(0, 7), 23);
        y.ticks(1);
        Due.due("AGE 1, waited 21", y.ofLine(0, 7), 24);
        y.ticks(1);
        Due.due("at most CAP", y.ofLine(0, 7), 24);
    }

    private static void capAtAndAboveTheRank() {
        Due.by("if its rank is below CAP, 1 more .. but at most CAP");
        InterruptInn x = Due.with(5);
        x.mask(0, 1);
        x.raise(0);
        x.set(InterruptInn.AGE, 1);
        x.ticks(9);
        x.set(InterruptInn.CAP, 4);
        Due.due("CAP below the rank", x.ofLine(0, 7), 5);
        x.set(InterruptInn.CAP, 5);
        Due.due("CAP at the rank", x.ofLine(0, 7), 5);
        x.set(InterruptInn.CAP, 6);
        Due.due("CAP one above the rank", x.ofLine(0, 7), 6);
        x.set(InterruptInn.CAP, 13);
        Due.due("CAP one below what it has grown to", x.ofLine(0, 7), 13);
        x.set(InterruptInn.CAP, 14);
        Due.due("CAP at what it has grown to", x.ofLine(0, 7), 14);
        x.set(InterruptInn.CAP, 15);
        Due.due("CAP above what it has grown to", x.ofLine(0, 7), 14);
    }

    private static void capOfZeroAndOf31() {
        Due.by("CAP (0 to 31), a rank");
        InterruptInn x = Due.with(0, 15);
        x.set(InterruptInn.AGE, 1);
        x.set(InterruptInn.CAP, 0);
        for (int line = 0; line < 2; line++) {
            x.mask(line, 1);
            x.raise(line);
        }
        x.ticks(16);
        Due.due("CAP 0, rank 0", x.ofLine(0, 7), 0);
        Due.due("CAP 0, rank 15", x.ofLine(1, 7), 15);
        x.set(InterruptInn.CAP, 31);
        Due.due("CAP 31, rank 0", x.ofLine(0, 7), 16);
        Due.due("CAP 31, rank 15", x.ofLine(1, 7), 31);
        x.ticks(16);
        Due.due("CAP 31, rank 0, later", x.ofLine(0, 7), 31);
        Due.due("CAP 31, rank 15, later", x.ofLine(1, 7), 31);
    }

    private static void ageAndCapCountWhenAsked() {
        Due.by("AGE and CAP count as they are when the rank is asked");
        InterruptInn x = Due.with(1, 9);
        x.raise(1);
        x.ticks(1);
        x.set(InterruptInn.DEEPEST, 1);
        x.raise(0);
        x.ticks(4);
        Due.due("AGE 20", x.ofLine(0, 7), 1);
        x.set(InterruptInn.AGE, 2);
        Due.due("AGE 2, for all that it has waited", x.ofLine(0, 7), 3);
        x.set(InterruptInn.AGE, 1);
        Due.due("AGE 1", x.ofLine(0, 7), 5);
        x.set(InterruptInn.CAP, 4);
        Due.due("CAP 4", x.ofLine(0, 7), 4);
        x.set(InterruptInn.AGE, 20);
        Due.due("AGE 20 again", x.ofLine(0, 7), 1);
        x.set(InterruptInn.AGE, 1);
        x.ticks(2);
        Due.due("it has begun with its present rank", x.ofNest(0, 1), 4);
        x.set(InterruptInn.AGE, 20);
        x.set(InterruptInn.CAP, 31);
        Due.due("the rank in the nest stays", x.ofNest(0, 1), 4);
    }

    /** Whether a service of rank above comes on top of one of rank below. */
    private static int interrupts(int gap, int below, int above) {
        InterruptInn x = Due.with(below, above);
        x.set(InterruptInn.GAP, gap);
        x.raise(0);
        x.ticks(1);
        x.raise(1);
        x.ticks(1);
        return x.count(3) - 1;
    }

    private static void gapOfOneAndOfNine() {
        Due.by("its present rank is at least GAP above the rank of the service on top of the nest");
        Due.due("GAP 1, the same rank", interrupts(1, 4, 4), 0);
        Due.due("GAP 1, 1 above", interrupts(1, 4, 5), 1);
        Due.due("GAP 1, 1 below", interrupts(1, 4, 3), 0);
        Due.due("GAP 2, 1 above", interrupts(2, 4, 5), 0);
        Due.due("GAP 2, 2 above", interrupts(2, 4, 6), 1);
        Due.due("GAP 9, 8 above", interrupts(9, 4, 12), 0);
        Due.due("GAP 9, 9 above", interrupts(9, 4, 13), 1);
        Due.due("GAP 9, 10 above", interrupts(9, 4, 14), 1);
    }

    private static void gapIsAboveTheRankInTheNest() {
        Due.by("the rank of the service on top of the nest is the present rank with which it came there");
        InterruptInn x = Due.with(1, 6);
        x.set(InterruptInn.AGE, 1);
        x.mask(0, 1);
        x.raise(0);
        x.ticks(5);
        x.mask(0, 0);
        x.ticks(1);
        Due.due("rank 1, grown to 6", x.ofNest(0, 1), 6);
        x.raise(1);
        x.ticks(1);
        Due.due("6 is not above 6", x.count(3), 1);
        x.change(0, 15, 5, 0);
        x.ticks(1);
        Due.due("grown to 7 it is, whatever the line's rank is now", x.count(3), 2);
        Due.due("with 7", x.ofNest(1, 1), 7);
    }

    private static void deepestOfOne() {
        Due.by("fewer than DEEPEST services are in the nest (1)");
        InterruptInn x = Due.with(0, 15);
        x.set(InterruptInn.DEEPEST, 1);
        x.raise(0);
        x.ticks(1);
        Due.due("the empty nest takes one", x.count(3), 1);
        x.raise(1);
        x.ticks(4);
        Due.due("and no other", x.ofLine(1, 12), 0);
        Due.due("it is found all the same", x.count(5), 1);
        x.ticks(2);
        Due.due("behind it there is room", x.ofLine(1, 12), 1);
        Due.due("at once", x.ofLine(1, 14), 5);
        Due.due("the deepest nest", x.count(7), 1);
    }

    private static void deepestOfEight() {
        Due.by("fewer than DEEPEST services are in the nest (8)");
        InterruptInn x = Due.with(0, 1, 2, 3, 4, 5, 6, 7, 8);
        x.set(InterruptInn.DEEPEST, 8);
        for (int line = 0; line < 9; line++) {
            x.raise(line);
            x.ticks(1);
            Due.due("depth", x.count(3), Math.min(line + 1, 8));
        }
        Due.due("the ninth has not begun", x.ofLine(8, 12), 0);
        Due.due("the eighth is on top", x.ofNest(7, 0), 7);
        Due.due("no ninth place", x.ofNest(8, 0), Due.NO_SUCH);
        x.ticks(4);
        Due.due("the eighth has ended", x.count(3), 7);
        x.ticks(1);
        Due.due("the ninth is in its place", x.ofNest(7, 0), 8);
        Due.due("the deepest nest", x.count(7), 8);
    }

    private static void deepestBelowTheNest() {
        Due.by("set: what is in the nest stays (DEEPEST below the services in it)");
        InterruptInn x = Due.with(0, 1, 2, 15);
        for (int line = 0; line < 3; line++) {
            x.raise(line);
            x.ticks(1);
        }
        x.set(InterruptInn.DEEPEST, 1);
        Due.due("all three stay", x.count(3), 3);
        x.raise(3);
        x.ticks(5);
        Due.due("the top has ended", x.count(3), 2);
        x.ticks(5);
        Due.due("the next one, too", x.count(3), 1);
        x.ticks(4);
        Due.due("nothing has begun above them", x.ofLine(3, 12), 0);
        x.ticks(2);
        Due.due("it begins in the empty nest", x.ofNest(0, 0), 3);
    }

    private static void switchOfZero() {
        Due.by("takes its need and SWITCH ticks (SWITCH 0)");
        InterruptInn x = new InterruptInn();
        x.line(1, 1, 0, 0);
        x.line(1, 2, 0, 0);
        x.set(InterruptInn.SWITCH, 0);
        x.raise(0);
        x.ticks(1);
        Due.due("need 1 takes the tick in which it begins", x.ofLine(0, 13), 1);
        Due.due("one tick served", x.count(6), 1);
        Due.due("the nest is empty", x.count(3), 0);
        x.raise(1);
        x.ticks(1);
        Due.due("need 2 takes one more", x.ofNest(0, 2), 1);
        x.ticks(1);
        Due.due("it ends", x.ofLine(1, 13), 1);
        x.ticks(1);
        Due.due("three ticks served", x.count(6), 3);
    }

    private static void switchOfNine() {
        Due.by("takes its need and SWITCH ticks (SWITCH 9)");
        InterruptInn x = new InterruptInn();
        x.line(1, 50, 0, 0);
        x.set(InterruptInn.SWITCH, 9);
        x.raise(0);
        x.ticks(1);
        Due.due("59, one of them had", x.ofNest(0, 2), 58);
        x.ticks(57);
        Due.due("one is left", x.ofNest(0, 2), 1);
        x.ticks(1);
        Due.due("ended", x.ofLine(0, 13), 1);
        x.ticks(1);
        Due.due("those of SWITCH count as served", x.count(6), 59);
    }

    private static void switchStaysInTheNest() {
        Due.by("set: what is in the nest stays (SWITCH)");
        InterruptInn x = Due.with(1);
        x.raise(0);
        x.ticks(1);
        x.set(InterruptInn.SWITCH, 9);
        Due.due("5 of 6 are left", x.ofNest(0, 2), 5);
        x.ticks(5);
        Due.due("ended", x.ofLine(0, 13), 1);
        x.raise(0);
        x.ticks(1);
        Due.due("the next one takes 14", x.ofNest(0, 2), 13);
    }

    private static void keepOfZero() {
        Due.by("or it is masked and KEEP is 0, this edge is lost");
        InterruptInn x = Due.with(1);
        x.set(InterruptInn.KEEP, 0);
        x.mask(0, 1);
        Due.due("masked", x.raise(0), 0);
        Due.due("it does not wait", x.ofLine(0, 5), 0);
        Due.due("it came", x.ofLine(0, 10), 1);
        Due.due("it is lost", x.ofLine(0, 11), 1);
        x.mask(0, 0);
        x.ticks(2);
        Due.due("nothing begins", x.ofLine(0, 12), 0);
        Due.due("not masked", x.raise(0), 1);
        x.mask(0, 1);
        x.ticks(3);
        Due.due("what waited already waits on", x.ofLine(0, 6), 3);
        Due.due("masked and waiting: lost", x.raise(0), 0);
        Due.due("no wait is lost by it", x.ofLine(0, 6), 3);
        x.set(InterruptInn.KEEP, 1);
        x.mask(0, 0);
        x.ticks(1);
        x.mask(0, 1);
        x.set(InterruptInn.KEEP, 0);
        Due.due("masked and in the nest: lost", x.raise(0), 0);
        Due.due("it does not wait in the nest", x.ofLine(0, 5), 0);
        x.set(InterruptInn.KEEP, 1);
        Due.due("kept in the nest", x.raise(0), 1);
    }

    private static void keepOfOne() {
        Due.by("masked and KEEP is 1: it waits from then on");
        InterruptInn x = Due.with(1);
        x.mask(0, 1);
        Due.due("masked", x.raise(0), 1);
        Due.due("masked again", x.raise(0), 0);
        x.ticks(6);
        Due.due("does not begin", x.ofLine(0, 12), 0);
        Due.due("waited", x.ofLine(0, 6), 6);
        x.mask(0, 0);
        x.ticks(1);
        Due.due("begins", x.ofLine(0, 14), 6);
    }

    private static void keepIsForEdgesAlone() {
        Due.by("A level line .. waits as long as some device holds it up (KEEP 0, masked)");
        InterruptInn x = new InterruptInn();
        x.line(1, 5, 0, 1);
        x.set(InterruptInn.KEEP, 0);
        x.mask(0, 1);
        Due.due("held", x.hold(0, 2, 1), 4);
        Due.due("waits", x.ofLine(0, 5), 1);
        x.ticks(3);
        x.mask(0, 0);
        x.ticks(1);
        Due.due("begins behind its wait", x.ofLine(0, 14), 3);
    }

    private static void barOfZeroAndOf31() {
        Due.by("whose present rank is at least BAR (0, 31)");
        InterruptInn x = Due.with(0);
        x.raise(0);
        Due.due("BAR 0, rank 0", x.count(5), 0);
        InterruptInn y = Due.with(15);
        y.set(InterruptInn.BAR, 31);
        y.set(InterruptInn.CAP, 31);
        y.set(InterruptInn.AGE, 1);
        y.raise(0);
        y.ticks(15);
        Due.due("BAR 31, rank 30", y.count(5), Due.NONE);
        y.ticks(1);
        Due.due("BAR 31, rank 31", y.count(5), 0);
        Due.due("not begun yet", y.count(3), 0);
        y.ticks(1);
        Due.due("begun with 31", y.ofNest(0, 1), 31);
        InterruptInn z = Due.with(15);
        z.set(InterruptInn.BAR, 31);
        z.set(InterruptInn.CAP, 30);
        z.set(InterruptInn.AGE, 1);
        z.raise(0);
        z.ticks(500);
        Due.due("BAR 31, CAP 30", z.ofLine(0, 12), 0);
    }

    private static void barIsReachedByWaiting() {
        Due.by("whose present rank is at least BAR");
        InterruptInn x = Due.with(5);
        x.raise(0);
        x.set(InterruptInn.BAR, 6);
        Due.due("one below", x.count(5), Due.NONE);
        x.ticks(1);
        Due.due("does not begin", x.count(3), 0);
        x.set(InterruptInn.BAR, 5);
        Due.due("at the bar", x.count(5), 0);
        x.ticks(1);
        Due.due("begins", x.count(3), 1);
    }

    private static void barIsForAnEmptyNestToo() {
        Due.by("Of the lines .. whose present rank is at least BAR");
        InterruptInn x = Due.with(5, 7);
        x.set(InterruptInn.BAR, 7);
        x.raise(0);
        x.ticks(10);
        Due.due("an empty nest, below the bar", x.count(6), 0);
        x.raise(1);
        x.ticks(1);
        Due.due("at the bar", x.ofNest(0, 0), 1);
        x.ticks(10);
        Due.due("the other one is not found behind it", x.count(3), 0);
        Due.due("it waits", x.ofLine(0, 5), 1);
    }

    private static void barLeavesTheNest() {
        Due.by("set: what is in the nest stays (BAR)");
        InterruptInn x = Due.with(5);
        x.raise(0);
        x.ticks(1);
        x.set(InterruptInn.BAR, 31);
        x.ticks(4);
        Due.due("served on", x.ofNest(0, 2), 1);
        x.ticks(1);
        Due.due("to its end", x.ofLine(0, 13), 1);
    }
}
