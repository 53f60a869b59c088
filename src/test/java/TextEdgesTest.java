import java.util.List;

/** 'Texts' and promises 21 to 24: characters, the pad, each kind of fault, and orders at their edges. */
public final class TextEdgesTest {
    public static void main(String[] args) {
        oneToEightCharacters();
        orderOfTheCharacters();
        noCharacter();
        codes();
        bitsAboveNothing();
        negativeNumbers();
        fullPad();
        putIsNoChange();
        wipe();
        faultOfTheEmptyPad();
        faultOfNothing();
        faultAtTheStartOfAnOrder();
        faultOfALine();
        faultOfADevice();
        faultOfANumber();
        faultBehindAnOrder();
        textThatEndsTooEarly();
        firstOfSeveralFaults();
        faultChangesNothing();
        ordersDoWhatTheirCallsDo();
        numbersOfTicks();
        orderThatReturnsAnError();
        eachErrorStops();
        noneIsCarriedOut();
        badTextStays();
        ordersRecordNothing();
        longestText();
        Due.finish();
    }

    private static void oneToEightCharacters() {
        Due.by("put: 1 to 8 characters; Returns the length of the pad then");
        for (int length = 1; length <= 8; length++) {
            InterruptInn x = new InterruptInn();
            Due.due("put", x.put(Due.packed("ABCDEFGH".substring(0, length))), length);
            Due.due("length", x.count(10), length);
            Due.due("put more", x.put('Z'), length + 1);
        }
    }

    private static void orderOfTheCharacters() {
        Due.by("put: its lowest 8 bits are the last character, the next 8 bits the one before");
        InterruptInn x = new InterruptInn();
        x.line(1, 1, 0, 0);
        Due.due("uA", x.put('u' << 8 | 'A'), 2);
        Due.due("it is an order", x.fault(), Due.NONE);
        Due.due("carried out", x.carryOut(), 1);
        Due.due("Au", x.put('A' << 8 | 'u'), 2);
        Due.due("that is none", x.fault(), 0);
        x.wipe();
        Due.due("eight of them", x.put(Due.packed("uA;t1;mA")), 8);
        Due.due("carried out", x.carryOut(), 3);
        Due.due("masked", x.ofLine(0, 4), 1);
        Due.by("put: Appends characters to the pad");
        x.put('n');
        x.put('A');
        Due.due("nA", x.carryOut(), 1);
        Due.due("not masked", x.ofLine(0, 4), 0);
    }

    private static void noCharacter() {
        Due.by("put: BAD_VALUE if there is no character");
        InterruptInn x = new InterruptInn();
        Due.due("0", x.put(0), Due.BAD_VALUE);
        Due.due("length", x.count(10), 0);
        x.put('u');
        Due.due("0", x.put(0), Due.BAD_VALUE);
        Due.due("length", x.count(10), 1);
    }

    private static void codes() {
        Due.by("put: BAD_VALUE if .. a code is not 33 to 126");
        for (int place = 0; place < 8; place++) {
            for (int code = 1; code <= 255; code++) {
                InterruptInn x = new InterruptInn();
                long characters = Due.packed("AAAAAAAA") & ~(255L << 8 * place) | (long) code << 8 * place;
                boolean may = code >= 33 && code <= 126;
                Due.due("code " + code + " at " + place + " of 8", x.put(characters), may ? 8 : Due.BAD_VALUE);
                if (place == 0) {
                    Due.due("code " + code + " alone", x.put(code), may ? 9 : Due.BAD_VALUE);
                }
                Due.due("length", x.count(10), may ? (place == 0 ? 9 : 8) : 0);
            }
        }
    }

    private static void bitsAboveNothing() {
        Due.by("put: BAD_VALUE if .. a bit above 8 bits that are 0 is not 0");
        InterruptInn x = new InterruptInn();
        for (int characters = 0; characters < 7; characters++) {
            long below = characters == 0 ? 0 : Due.packed("AAAAAAA".substring(0, characters));
            for (int bit = 8 * characters + 8; bit < 64; bit++) {
                Due.due("bit " + bit + " above " + characters, x.put(below | 1L << bit), Due.BAD_VALUE);
            }
        }
        Due.due("a character above them", x.put('A' << 16 | 'A'), Due.BAD_VALUE);
        Due.due("the pad is empty", x.count(10), 0);
    }

    private static void negativeNumbers() {
        Due.by("put: a code is not 33 to 126 (a negative number)");
        InterruptInn x = new InterruptInn();
        Due.due("-1", x.put(-1), Due.BAD_VALUE);
        Due.due("the least one", x.put(Long.MIN_VALUE), Due.BAD_VALUE);
        Due.due("the eighth code with its highest bit", x.put(Long.MIN_VALUE | Due.packed("AAAAAAAA")), Due.BAD_VALUE);
        Due.due("-191", x.put(-191), Due.BAD_VALUE);
        Due.due("the pad is empty", x.count(10), 0);
    }

    private static void fullPad() {
        Due.by("The pad is a text of at most 80 characters. put: TOO_MANY if the pad would be longer than 80");
        for (int last = 1; last <= 8; last++) {
            InterruptInn x = new InterruptInn();
            Due.write(x, "t".repeat(80 - last));
            String text = "t".repeat(last);
            if (last < 8) {
                Due.due("81", x.put(Due.packed(text + "t")), Due.TOO_MANY);
                Due.due("nothing of it is put", x.count(10), 80 - last);
            }
            Due.due("exactly 80", x.put(Due.packed(text)), 80);
            Due.due("one more", x.put('t'), Due.TOO_MANY);
            Due.due("eight more", x.put(Due.packed("tttttttt")), Due.TOO_MANY);
            Due.due("it is full", x.count(10), 80);
        }
    }

    private static void putIsNoChange() {
        Due.by("put, wipe: no change");
        InterruptInn x = Due.busy();
        List<Integer> before = Due.seen(x);
        x.put('u');
        x.wipe();
        x.put('u');
        Due.due("changes", x.count(11), 6);
        Due.due("seen", Due.seen(x), before);
        x.undo();
        Due.due("the pad is as it was ahead of undo", x.count(10), 1);
    }

    private static void wipe() {
        Due.by("wipe: Empties the pad, and returns the length that it had");
        InterruptInn x = new InterruptInn();
        Due.due("an empty pad", x.wipe(), 0);
        Due.write(x, "t1;t2;t3;t4");
        Due.due("eleven", x.wipe(), 11);
        Due.due("empty", x.count(10), 0);
        Due.due("again", x.wipe(), 0);
        Due.write(x, "t".repeat(80));
        Due.due("80", x.wipe(), 80);
        Due.write(x, "t7");
        Due.due("nothing is left of what was there", x.carryOut(), 1);
        Due.due("ticks", x.count(0), 7);
    }

    private static int fault(String text) {
        InterruptInn x = new InterruptInn();
        Due.write(x, text);
        return x.fault();
    }

    private static void faultOfTheEmptyPad() {
        Due.by("it is the length of the text (also if it is empty)");
        Due.due("a new object", new InterruptInn().fault(), 0);
        InterruptInn x = new InterruptInn();
        x.put('u');
        x.wipe();
        Due.due("wiped", x.fault(), 0);
        Due.write(x, "t1");
        x.carryOut();
        Due.due("carried out", x.fault(), 0);
        Due.due("carryOut", x.carryOut(), Due.BAD_TEXT);
    }

    private static void faultOfNothing() {
        Due.by("fault: Returns the fault of the pad, NONE if there is none");
        for (char line = 'A'; line <= 'L'; line++) {
            for (String letter : new String[] {"u", "m", "n"}) {
                Due.due(letter + line, fault(letter + line), Due.NONE);
            }
            for (int device = 0; device < 4; device++) {
                Due.due("h" + line + device, fault("h" + line + device), Due.NONE);
                Due.due("l" + line + device, fault("l" + line + device), Due.NONE);
            }
        }
        for (int number = 0; number <= 999; number++) {
            Due.due("t" + number, fault("t" + number), Due.NONE);
        }
    }

    private static void faultAtTheStartOfAnOrder() {
        Due.by("order = \"u\" line | \"h\" line device | \"l\" line device | \"m\" line | \"n\" line | \"t\" number");
        for (char sign = 33; sign <= 126; sign++) {
            int want = "uhlmnt".indexOf(sign) >= 0 ? 1 : 0;
            Due.due("the first order: " + sign, fault("" + sign), want);
            Due.due("another order: " + sign, fault("uA;" + sign), 3 + want);
        }
    }

    private static void faultOfALine() {
        Due.by("A line is a letter from A to L");
        for (char letter : "umnhl".toCharArray()) {
            boolean held = letter == 'h' || letter == 'l';
            for (char sign = 33; sign <= 126; sign++) {
                int want = sign < 'A' || sign > 'L' ? 1 : held ? 2 : Due.NONE;
                Due.due("" + letter + sign, fault("" + letter + sign), want);
            }
        }
        Due.due("uM", fault("uM"), 1);
        Due.due("u@", fault("u@"), 1);
        Due.due("ua", fault("ua"), 1);
    }

    private static void faultOfADevice() {
        Due.by("a device a digit from 0 to 3");
        for (char sign = 33; sign <= 126; sign++) {
            int want = sign >= '0' && sign <= '3' ? Due.NONE : 2;
            Due.due("hA" + sign, fault("hA" + sign), want);
            Due.due("lL" + sign, fault("lL" + sign), want);
        }
    }

    private static void faultOfANumber() {
        Due.by("A number is 0 to 999, without leading zeros (also of a digit by which a number would be above 999)");
        Due.due("t0", fault("t0"), Due.NONE);
        Due.due("t999", fault("t999"), Due.NONE);
        Due.due("t1000", fault("t1000"), 4);
        Due.due("t9990", fault("t9990"), 4);
        Due.due("t00", fault("t00"), 2);
        Due.due("t01", fault("t01"), 2);
        Due.due("t007", fault("t007"), 2);
        Due.due("t10", fault("t10"), Due.NONE);
        Due.due("t100", fault("t100"), Due.NONE);
        Due.due("t", fault("t"), 1);
        Due.due("t;", fault("t;"), 1);
        Due.due("t-1", fault("t-1"), 1);
        Due.due("t1;t00", fault("t1;t00"), 5);
        Due.due("t1;t1000", fault("t1;t1000"), 7);
        for (char sign = 33; sign <= 126; sign++) {
            boolean digit = sign >= '0' && sign <= '9';
            Due.due("t" + sign, fault("t" + sign), digit ? Due.NONE : 1);
            if (sign != ';') {
                Due.due("t1" + sign, fault("t1" + sign), digit ? Due.NONE : 2);
                Due.due("t12" + sign, fault("t12" + sign), digit ? Due.NONE : 3);
                Due.due("t123" + sign, fault("t123" + sign), 4);
                Due.due("t0" + sign, fault("t0" + sign), 2);
            }
        }
    }

    private static void faultBehindAnOrder() {
        Due.by("text = order { \";\" order }");
        for (char sign = 33; sign <= 126; sign++) {
            int after = sign == ';' ? 1 : 0;
            Due.due("uA" + sign, fault("uA" + sign), 2 + after);
            Due.due("hB2" + sign, fault("hB2" + sign), 3 + after);
            Due.due("mL" + sign, fault("mL" + sign), 2 + after);
        }
        Due.due(";", fault(";"), 0);
        Due.due("uA;;uA", fault("uA;;uA"), 3);
        Due.due("uAuA", fault("uAuA"), 2);
        Due.due("uA,uA", fault("uA,uA"), 2);
        Due.due("u;", fault("u;"), 1);
        Due.due("h;", fault("h;"), 1);
        Due.due("hA;", fault("hA;"), 2);
    }

    private static void textThatEndsTooEarly() {
        Due.by("if there is none and the text ends too early .., it is the length of the text");
        String[] early = {"u", "m", "n", "h", "l", "hA", "lL", "t", "uA;", "t0;", "t999;", "hA0;h", "hA0;hB", "t1;t"};
        for (String text : early) {
            Due.due(text, fault(text), text.length());
        }
        String most = "t1;".repeat(26);
        Due.due("80 characters", fault(most + "t1"), Due.NONE);
        Due.due("80 characters that end too early", fault("t10" + most.substring(2) + "t"), 80);
        Due.due("a fault in the last one of 80", fault(most + "tx"), 79);
    }

    private static void firstOfSeveralFaults() {
        Due.by("the index of the first character that cannot stand at its place");
        Due.due("three faults", fault("uA;uM;uM;x"), 4);
        Due.due("at the first character", fault("xuM"), 0);
        Due.due("ahead of an early end", fault("uM;u"), 1);
    }

    private static void faultChangesNothing() {
        Due.by("fault: Returns the fault of the pad");
        InterruptInn x = Due.busy();
        Due.write(x, "t1;x");
        List<Integer> before = Due.seenWithAll(x);
        Due.due("fault", x.fault(), 3);
        Due.due("again", x.fault(), 3);
        Due.due("seen", Due.seenWithAll(x), before);
        Due.due("length", x.count(10), 4);
    }

    /** Four edge lines and two level lines; line 1 is masked, line 4 is held by the devices 0 and 1. */
    private static InterruptInn six() {
        InterruptInn x = new InterruptInn();
        for (int line = 0; line < 6; line++) {
            x.line(line, 2, 3, line / 4);
        }
        x.mask(1, 1);
        x.hold(4, 0, 1);
        x.hold(4, 1, 1);
        return x;
    }

    private static void ordersDoWhatTheirCallsDo() {
        Due.by("u: raise(); h: hold() .. up; l: hold() .. lets go; m: mask(); n: mask() taken back; t: ticks()");
        InterruptInn x = six();
        InterruptInn y = six();
        Due.due("u", Due.carry(x, "uA"), 1);
        y.raise(0);
        Due.due("uA", Due.seen(x), Due.seen(y));
        Due.due("h", Due.carry(x, "hF3"), 1);
        y.hold(5, 3, 1);
        Due.due("hF3", Due.seen(x), Due.seen(y));
        Due.due("l", Due.carry(x, "lE1"), 1);
        y.hold(4, 1, 0);
        Due.due("lE1", Due.seen(x), Due.seen(y));
        Due.due("m", Due.carry(x, "mC"), 1);
        y.mask(2, 1);
        Due.due("mC", Due.seen(x), Due.seen(y));
        Due.due("n", Due.carry(x, "nB"), 1);
        y.mask(1, 0);
        Due.due("nB", Due.seen(x), Due.seen(y));
        Due.due("t", Due.carry(x, "t17"), 1);
        y.ticks(17);
        Due.due("t17", Due.seen(x), Due.seen(y));
        InterruptInn z = six();
        Due.due("all of them", Due.carry(z, "uA;hF3;lE1;mC;nB;t17"), 6);
        Due.due("one after the other", Due.seen(z), Due.seen(y));
        Due.by("carryOut: Carries the orders of the pad out, one after the other");
        InterruptInn w = new InterruptInn();
        w.line(1, 2, 0, 0);
        Due.due("the order counts", Due.carry(w, "uA;uA;t3;uA"), 4);
        Due.due("came", w.ofLine(0, 10), 3);
        Due.due("lost by the second one", w.ofLine(0, 11), 1);
    }

    private static void numbersOfTicks() {
        Due.by("\"t\": so many ticks()");
        int[] numbers = {1, 9, 10, 99, 100, 499, 500};
        for (int number : numbers) {
            InterruptInn x = new InterruptInn();
            Due.due("t" + number, Due.carry(x, "t" + number), 1);
            Due.due("tick", x.count(0), number);
        }
        int[] beyond = {0, 501, 999};
        for (int number : beyond) {
            InterruptInn x = new InterruptInn();
            Due.due("t" + number + " is no fault", fault("t" + number), Due.NONE);
            Due.due("t" + number, Due.carry(x, "t" + number), 0);
            Due.due("tick", x.count(0), 0);
        }
    }

    private static void orderThatReturnsAnError() {
        Due.by("carryOut: up to the first one that returns an error, and empties the pad. Returns how many were");
        InterruptInn x = six();
        Due.due("an error between others", Due.carry(x, "t5;mA;t0;t7;mD"), 2);
        Due.due("those ahead of it are carried out", x.count(0), 5);
        Due.due("both", x.ofLine(0, 4), 1);
        Due.due("those behind it are not", x.ofLine(3, 4), 0);
        Due.due("the pad is empty", x.count(10), 0);
        Due.due("one change", x.count(11), 6);
        x.undo();
        Due.due("with all of them", x.count(0), 0);
        Due.due("all of them", x.ofLine(0, 4), 0);
        Due.due("the pad is empty still", x.count(10), 0);
        Due.due("an error at the end", Due.carry(x, "t5;t6;t501"), 2);
        Due.due("tick", x.count(0), 11);
        Due.due("none returns an error", Due.carry(x, "t5;t6;t500"), 3);
    }

    private static void eachErrorStops() {
        Due.by("carryOut: up to the first one that returns an error (each error)");
        String[] errors = {"uG", "uE", "uL", "hG0", "hA0", "lG0", "lA0", "mG", "nG", "nL", "t0", "t501", "t999"};
        for (String error : errors) {
            InterruptInn x = six();
            Due.due(error, Due.carry(x, "t2;" + error + ";t3"), 1);
            Due.due(error + ": tick", x.count(0), 2);
            Due.due(error + ": pad", x.count(10), 0);
        }
        Due.by("carryOut: what returns no error goes on");
        String[] none = {"uB;uB", "uA;uA", "hE0", "lE3", "lF0", "mB", "nA", "t1", "t500"};
        for (String text : none) {
            InterruptInn x = six();
            int orders = text.split(";").length;
            Due.due(text, Due.carry(x, text + ";t3"), orders + 1);
        }
    }

    private static void noneIsCarriedOut() {
        Due.by("carryOut: This is a change (one, with all of them; also if none is carried out)");
        InterruptInn x = new InterruptInn();
        x.ticks(4);
        Due.due("none", Due.carry(x, "t0;t5"), 0);
        Due.due("two changes", x.count(11), 2);
        Due.due("the pad is empty", x.count(10), 0);
        Due.due("undo", x.undo(), 1);
        Due.due("that one alone", x.count(0), 4);
        Due.due("two orders", Due.carry(x, "t5;t6"), 2);
        Due.due("two changes", x.count(11), 2);
        Due.due("undo", x.undo(), 1);
        Due.due("both orders", x.count(0), 4);
    }

    private static void badTextStays() {
        Due.by("carryOut: BAD_TEXT if the pad has a fault (then it stays)");
        InterruptInn x = six();
        int changes = x.count(11);
        Due.due("empty", x.carryOut(), Due.BAD_TEXT);
        Due.due("a fault at the end", Due.carry(x, "t5;t6;"), Due.BAD_TEXT);
        Due.due("nothing is carried out", x.count(0), 0);
        Due.due("it stays", x.count(10), 6);
        Due.due("no change", x.count(11), changes);
        x.put(Due.packed("t7"));
        Due.due("made good", x.carryOut(), 3);
        Due.due("carried out", x.count(0), 18);
        Due.due("a fault behind good orders", Due.carry(x, "t5;uM"), Due.BAD_TEXT);
        Due.due("none of them", x.count(0), 18);
        Due.due("it stays", x.wipe(), 5);
    }

    private static void ordersRecordNothing() {
        Due.by("undo: An order of a text records nothing by itself");
        InterruptInn x = new InterruptInn();
        x.line(1, 2, 0, 0);
        x.line(1, 2, 0, 1);
        Due.due("seven orders", Due.carry(x, "t1;uA;hB1;lB1;mA;nA;t2"), 7);
        Due.due("three changes", x.count(11), 3);
        Due.due("undo", x.undo(), 2);
        Due.due("ahead of all seven", x.count(0), 0);
        Due.due("lines", x.count(1), 2);
        Due.due("undo", x.undo(), 1);
        Due.due("ahead of the second line", x.count(1), 1);
        InterruptInn y = new InterruptInn();
        for (int i = 0; i < 5; i++) {
            y.ticks(1);
        }
        Due.carry(y, "t1;t1;t1;t1;t1;t1;t1;t1");
        Due.due("six changes", y.count(11), 6);
        for (int i = 5; i >= 0; i--) {
            Due.due("undo", y.undo(), i);
        }
        Due.due("the first one is there still", y.count(0), 0);
    }

    private static void longestText() {
        Due.by("The pad is a text of at most 80 characters, a row of orders");
        InterruptInn x = new InterruptInn();
        Due.due("27 orders in 80 characters", Due.carry(x, "t2;".repeat(26) + "t3"), 27);
        Due.due("tick", x.count(0), 55);
        Due.due("16 long ones", Due.carry(x, "t500;".repeat(15) + "t400"), 16);
        Due.due("tick", x.count(0), 55 + 7900);
    }
}
