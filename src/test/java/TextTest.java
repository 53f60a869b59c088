import java.util.List;

/** Promises 21 to 24: put, wipe, fault, carryOut. */
public final class TextTest {
    public static void main(String[] args) {
        putting();
        putErrors();
        fullPad();
        wiping();
        faults();
        faultAtEverySign();
        carrying();
        everyOrder();
        stopsAtError();
        badText();
        Due.finish();
    }

    private static void putting() {
        InterruptInn x = new InterruptInn();
        Due.due("one character", x.put('u'), 1);
        Due.due("two", x.put(Due.packed("A;")), 3);
        Due.due("eight", x.put(Due.packed("t500;t50")), 11);
        Due.due("the order of the characters", x.fault(), Due.NONE);
        Due.due("length", x.count(10), 11);
        Due.due("no change", x.count(11), 0);
        Due.due("lowest code", x.put(33), 12);
        Due.due("highest code", x.put(126), 13);
        Due.due("all eight highest", x.put(0x7e7e7e7e7e7e7e7eL), 21);
        Due.due("all eight lowest", x.put(0x2121212121212121L), 29);
    }

    private static void putErrors() {
        InterruptInn x = new InterruptInn();
        x.put('u');
        long[] wrong = {0, 32, 127, 128, 255, 256, 'A' << 8, 0x4100410041L, 0x41004100L, 0x4120, 0x417f, 0x2041, 0x7f41,
            -1, Long.MIN_VALUE, Long.MAX_VALUE, Long.MIN_VALUE | 'A', 0x0100000000000041L, 0x8041414141414141L,
            0x2041414141414141L, 0x7f41414141414141L, 0x1000041L, 0x100000000L, 0x4141414141414100L};
        for (long characters : wrong) {
            Due.due("put(" + characters + ")", x.put(characters), Due.BAD_VALUE);
        }
        Due.due("length", x.count(10), 1);
        Due.due("seven", x.put(Due.packed("A;t500;")), 8);
    }

    private static void fullPad() {
        InterruptInn x = new InterruptInn();
        for (int i = 1; i <= 9; i++) {
            Due.due("eight more", x.put(Due.packed("t500;uA;")), 8 * i);
        }
        Due.due("seven more", x.put(Due.packed("t500;uA")), 79);
        Due.due("two more", x.put(Due.packed(";u")), Due.TOO_MANY);
        Due.due("value is ahead", x.put(0x7f41), Due.BAD_VALUE);
        Due.due("nothing is put", x.count(10), 79);
        Due.due("the last one", x.put(';'), 80);
        Due.due("one more", x.put('u'), Due.TOO_MANY);
        Due.due("eight more", x.put(Due.packed("t500;uA;")), Due.TOO_MANY);
        Due.due("value is ahead when full", x.put(0), Due.BAD_VALUE);
        Due.due("full", x.count(10), 80);
        Due.due("ends too early", x.fault(), 80);
        Due.due("wipe", x.wipe(), 80);
        Due.due("anew", x.put(Due.packed("t500;uA;")), 8);
    }

    private static void wiping() {
        InterruptInn x = new InterruptInn();
        Due.due("empty", x.wipe(), 0);
        x.put(Due.packed("uA"));
        Due.due("two", x.wipe(), 2);
        Due.due("length", x.count(10), 0);
        Due.due("no change", x.count(11), 0);
        Due.due("empty again", x.fault(), 0);
        x.put(Due.packed("t1"));
        Due.due("what was there is gone", x.carryOut(), 1);
        Due.due("tick", x.count(0), 1);
    }

    private static void fault(String text, int want) {
        InterruptInn x = new InterruptInn();
        Due.write(x, text);
        Due.due("fault of " + text, x.fault(), want);
        Due.due("fault of " + text + " again", x.fault(), want);
        Due.due("length of " + text, x.count(10), text.length());
    }

    private static void faults() {
        fault("", 0);
        String[] fine = {"uA", "uL", "mA", "mL", "nA", "nL", "hA0", "hL3", "lA0", "lL3", "t0", "t1", "t9", "t10", "t99",
            "t100", "t999", "uA;uB", "t999;t0;hC2;lD1;mE;nF;uG"};
        for (String text : fine) {
            fault(text, Due.NONE);
            fault(text + ";", text.length() + 1);
            fault(text + ";uA", Due.NONE);
            fault(text + ";;", text.length() + 1);
            fault(text + "u", text.length());
        }
        String[] early = {"u", "m", "n", "h", "hA", "l", "lL", "t", "uA;", "uA;t"};
        for (String text : early) {
            fault(text, text.length());
        }
        fault("t00", 2);
        fault("t01", 2);
        fault("t1000", 4);
        fault("t9999", 4);
        fault("t999;t1234", 9);
        fault("uM", 1);
        fault("u@", 1);
        fault("ua", 1);
        fault("hA4", 2);
        fault("hA/", 2);
        fault("hM0", 1);
        fault("hAA", 2);
        fault("lM", 1);
        fault("lA9", 2);
        fault("uAB", 2);
        fault("hA00", 3);
        fault("t;", 1);
        fault("u;", 1);
        fault("hA;", 2);
        fault(";uA", 0);
        fault("UA", 0);
        fault("1", 0);
        fault("uA:uA", 2);
        fault("tA", 1);
        fault("t5A", 2);
        fault("t55A", 3);
        fault("t5-", 2);
        fault("t+5", 1);
        fault("xxuA", 0);
    }

    /** At each place of a text each sign is tried: a text with another sign there has its fault there, or later. */
    private static void faultAtEverySign() {
        String text = "uA;hB1;t250;t0";
        String[] allowed = {"umn", "ABCDEFGHIJKL", ";", "hl", "ABCDEFGHIJKL", "0123", ";", "t", "0123456789",
            "0123456789;", "0123456789;", ";", "t", "0123456789"};
        for (int at = 0; at < text.length(); at++) {
            for (char sign = 33; sign <= 126; sign++) {
                InterruptInn x = new InterruptInn();
                Due.write(x, text.substring(0, at) + sign);
                boolean may = allowed[at].indexOf(sign) >= 0 || (at == 0 || at == 3 || at == 7 || at == 12)
                    && "umnhlt".indexOf(sign) >= 0;
                int fault = x.fault();
                Due.due("sign " + sign + " at " + at, fault == at ? 0 : 1, may ? 1 : 0);
            }
        }
    }

    private static void carrying() {
        InterruptInn x = new InterruptInn();
        x.line(1, 3, 0, 0);
        x.line(2, 3, 0, 1);
        Due.write(x, "uA;t2;hB0;hB3;lB3;mB;t10;nB;t1");
        Due.due("fault", x.fault(), Due.NONE);
        Due.due("carried out", x.carryOut(), 9);
        Due.due("tick", x.count(0), 13);
        Due.due("pad", x.count(10), 0);
        Due.due("one change", x.count(11), 3);
        Due.due("A ended", x.ofLine(0, 13), 1);
        Due.due("B held", x.ofLine(1, 9), 1);
        Due.due("B begun", x.ofNest(0, 0), 1);
        Due.due("B waited", x.ofLine(1, 14), 10);
        Due.due("undo", x.undo(), 2);
        Due.due("all of it", x.count(0), 0);
        Due.due("all edges", x.ofLine(0, 10), 0);
        Due.due("the pad stays empty", x.count(10), 0);
        InterruptInn y = new InterruptInn();
        y.line(0, 1, 0, 0);
        Due.write(y, "t500");
        Due.due("one order", y.carryOut(), 1);
        Due.due("500 ticks", y.count(0), 500);
        Due.write(y, "uA;uA;t1;uA");
        Due.due("a lost edge is carried out", y.carryOut(), 4);
        Due.due("edges", y.ofLine(0, 10), 3);
        Due.due("lost", y.ofLine(0, 11), 1);
    }

    private static void everyOrder() {
        for (int line = 0; line < 12; line++) {
            char letter = (char) ('A' + line);
            InterruptInn x = new InterruptInn();
            InterruptInn y = new InterruptInn();
            for (int i = 0; i < 12; i++) {
                x.line(1, 1, 0, 0);
                y.line(1, 1, 0, 1);
            }
            Due.write(x, "u" + letter);
            Due.due("u", x.carryOut(), 1);
            Due.due("u " + letter, x.count(4), 1 << line);
            Due.write(x, "m" + letter);
            Due.due("m", x.carryOut(), 1);
            Due.due("m " + letter, x.ofLine(line, 4), 1);
            Due.write(x, "n" + letter);
            Due.due("n", x.carryOut(), 1);
            Due.due("n " + letter, x.ofLine(line, 4), 0);
            for (int device = 0; device < 4; device++) {
                Due.write(y, "h" + letter + device);
                Due.due("h", y.carryOut(), 1);
                Due.due("h " + letter + device, y.ofLine(line, 9), (2 << device) - 1);
            }
            Due.write(y, "l" + letter + 2);
            Due.due("l", y.carryOut(), 1);
            Due.due("l " + letter, y.ofLine(line, 9), 11);
        }
        for (int ticks : new int[] {1, 9, 10, 42, 99, 100, 305, 499, 500}) {
            InterruptInn x = new InterruptInn();
            Due.write(x, "t" + ticks);
            Due.due("t", x.carryOut(), 1);
            Due.due("t" + ticks, x.count(0), ticks);
        }
    }

    private static void stopsAt(String text, int done, int tick) {
        InterruptInn x = new InterruptInn();
        x.line(1, 3, 0, 0);
        x.line(2, 3, 0, 1);
        Due.write(x, text);
        Due.due(text, x.carryOut(), done);
        Due.due(text + ": tick", x.count(0), tick);
        Due.due(text + ": the pad is empty", x.count(10), 0);
        Due.due(text + ": one change", x.count(11), 3);
        Due.due(text + ": undo", x.undo(), 2);
        Due.due(text + ": undone", x.count(0), 0);
    }

    private static void stopsAtError() {
        stopsAt("t0", 0, 0);
        stopsAt("t0;t5", 0, 0);
        stopsAt("t501", 0, 0);
        stopsAt("t999;t5", 0, 0);
        stopsAt("t5;t0;t7", 1, 5);
        stopsAt("t5;uB;t7", 1, 5);
        stopsAt("t5;uC;t7", 1, 5);
        stopsAt("t5;hA0;t7", 1, 5);
        stopsAt("t5;lA0;t7", 1, 5);
        stopsAt("t5;hC0;t7", 1, 5);
        stopsAt("t5;lL0;t7", 1, 5);
        stopsAt("t5;mC;t7", 1, 5);
        stopsAt("t5;nL;t7", 1, 5);
        stopsAt("t5;t6;t501;t7", 2, 11);
        stopsAt("t5;lB0;mB;t7", 4, 12);
    }

    private static void badText() {
        InterruptInn x = Due.busy();
        List<Integer> empty = Due.seenWithAll(x);
        Due.due("empty", x.carryOut(), Due.BAD_TEXT);
        Due.due("empty: nothing changes", Due.seenWithAll(x), empty);
        Due.write(x, "t5;t6;");
        List<Integer> before = Due.seenWithAll(x);
        Due.due("early end", x.carryOut(), Due.BAD_TEXT);
        Due.due("early end: nothing changes", Due.seenWithAll(x), before);
        Due.write(x, "uM");
        before = Due.seenWithAll(x);
        Due.due("fault", x.carryOut(), Due.BAD_TEXT);
        Due.due("fault: nothing changes", Due.seenWithAll(x), before);
        Due.due("the pad stays", x.wipe(), 8);
        Due.write(x, "t5;t6;");
        x.put('t');
        x.put('1');
        Due.due("made good", x.carryOut(), 3);
    }
}
