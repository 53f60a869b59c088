import java.util.ArrayList;
import java.util.List;

/** What the tests share: comparing an answer with the one that is due, and all that an object shows. */
final class Due {
    static final int NO_SUCH = -1, BAD_VALUE = -2, BAD_TEXT = -3, TOO_MANY = -4, NOT_POSSIBLE = -5, NONE = -6;
    /** Values that are wrong for nearly every argument, those at which sums wrap around among them. */
    static final int[] ODD = {Integer.MIN_VALUE, Integer.MIN_VALUE + 1, -1000, -1, 1000, Integer.MAX_VALUE - 1,
        Integer.MAX_VALUE};

    private static int wrong = 0;
    private static int asked = 0;
    private static String sentence = "";

    private Due() {
    }

    /** The words of the document by which the answers from here on are due. */
    static void by(String words) {
        sentence = words + " | ";
    }

    static void due(String call, long got, long want) {
        asked++;
        if (got != want) {
            tell(call + " answered " + got + ", due is " + want);
        }
    }

    static void due(String call, Object got, Object want) {
        asked++;
        if (!got.equals(want)) {
            tell(call + " gave " + got + ", due is " + want);
        }
    }

    private static void tell(String what) {
        wrong++;
        if (wrong <= 50) {
            System.out.println(sentence + what);
        }
    }

    static void finish() {
        sentence = "";
        System.out.println(asked + " answers, " + wrong + " of them wrong");
        if (wrong != 0 || asked == 0) {
            System.exit(1);
        }
    }

    /** The text as put() takes it, in pieces of at most 8 characters; returns what the last put() answered. */
    static int write(InterruptInn x, String text) {
        int answer = 0;
        for (int at = 0; at < text.length(); at += 8) {
            answer = x.put(packed(text.substring(at, Math.min(text.length(), at + 8))));
        }
        return answer;
    }

    static long packed(String characters) {
        long number = 0;
        for (char sign : characters.toCharArray()) {
            number = number << 8 | sign;
        }
        return number;
    }

    /** Writes the text, and carries it out. */
    static int carry(InterruptInn x, String text) {
        write(x, text);
        return x.carryOut();
    }

    /** An object with edge lines of these ranks, each with a need of 5 and without a deadline. */
    static InterruptInn with(int... ranks) {
        InterruptInn x = new InterruptInn();
        for (int rank : ranks) {
            x.line(rank, 5, 0, 0);
        }
        return x;
    }

    /** All that is seen of lines, nest, timers and settings, without the pad and the history. */
    static List<Integer> seen(InterruptInn x) {
        List<Integer> all = new ArrayList<>();
        for (int what = 0; what <= 18; what++) {
            if (what != 10 && what != 11) {
                all.add(x.count(what));
            }
        }
        for (int line = 0; line < x.count(1); line++) {
            for (int what = 0; what <= 16; what++) {
                all.add(x.ofLine(line, what));
            }
        }
        for (int place = 0; place < x.count(3); place++) {
            for (int what = 0; what <= 3; what++) {
                all.add(x.ofNest(place, what));
            }
        }
        for (int timer = 0; timer < x.count(2); timer++) {
            for (int what = 0; what <= 2; what++) {
                all.add(x.ofTimer(timer, what));
            }
        }
        return all;
    }

    /** The same, with the pad's length and fault and the length of the history. */
    static List<Integer> seenWithAll(InterruptInn x) {
        List<Integer> all = seen(x);
        all.add(x.count(10));
        all.add(x.count(11));
        all.add(x.fault());
        return all;
    }

    /** An object in the midst of things: edge and level lines, two services in the nest, a masked line, timers. */
    static InterruptInn busy() {
        InterruptInn x = new InterruptInn();
        x.line(3, 20, 5, 0);
        x.line(6, 9, 0, 1);
        x.line(1, 4, 2, 0);
        x.line(2, 5, 0, 1);
        x.timer(2, 7, 3);
        x.timer(0, 30, 11);
        x.raise(0);
        x.ticks(3);
        x.hold(1, 2, 1);
        x.hold(1, 0, 1);
        x.hold(3, 1, 1);
        x.ticks(2);
        x.mask(3, 1);
        return x;
    }
}
