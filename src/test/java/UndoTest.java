import java.util.ArrayList;
import java.util.List;

/** Promises 25 to 27: undo, save, restore; and, for all methods, that an error changes nothing. */
public final class UndoTest {
    public static void main(String[] args) {
        undoEveryChange();
        sixStates();
        undoLeavesPadAndSlots();
        saving();
        saveErrors();
        slotsAreTwo();
        restoring();
        restoreErrors();
        errorsChangeNothing();
        errorsLeaveHistory();
        Due.finish();
    }

    private static int change(InterruptInn x, int number) {
        switch (number) {
            case 0: return x.set(InterruptInn.GAP, 4);
            case 1: return x.line(9, 8, 7, 1);
            case 2: return x.timer(2, 9, x.count(0) + 15);
            case 3: return x.stop(0);
            case 4: return x.raise(0);
            case 5: return x.hold(1, 3, 1);
            case 6: return x.mask(0, 1);
            case 7: return x.change(1, 2, 3, 4);
            case 8: return x.ticks(77);
            case 9:
                Due.write(x, "uC;t33;mA");
                return x.carryOut();
            case 10:
                x.save(0);
                return x.restore(0);
            default: return x.set(InterruptInn.KEEP, 1);
        }
    }

    private static void undoEveryChange() {
        for (int first = 0; first < 12; first++) {
            for (int second = 0; second < 12; second++) {
                InterruptInn x = Due.busy();
                List<Integer> start = Due.seen(x);
                change(x, first);
                List<Integer> middle = Due.seen(x);
                Due.due("no error", change(x, second) >= 0 ? 1 : 0, 1);
                String name = "changes " + first + ", " + second;
                Due.due(name, x.count(11), 6);
                Due.due(name, x.undo(), 5);
                Due.due(name + ": undone once", Due.seen(x), middle);
                Due.due(name, x.undo(), 4);
                Due.due(name + ": undone twice", Due.seen(x), start);
                x.ticks(100);
                InterruptInn y = Due.busy();
                y.ticks(100);
                Due.due(name + ": it goes on as if nothing had been", Due.seen(x), Due.seen(y));
            }
        }
    }

    private static void sixStates() {
        InterruptInn x = new InterruptInn();
        Due.due("nothing to undo", x.undo(), Due.NOT_POSSIBLE);
        for (int i = 1; i <= 20; i++) {
            x.ticks(i);
            Due.due("history", x.count(11), Math.min(i, 6));
        }
        int tick = 210;
        for (int i = 20; i > 14; i--) {
            tick -= i;
            Due.due("undo", x.undo(), i - 15);
            Due.due("tick", x.count(0), tick);
        }
        Due.due("no more", x.undo(), Due.NOT_POSSIBLE);
        Due.due("tick stays", x.count(0), tick);
        x.ticks(3);
        x.ticks(4);
        Due.due("undo again", x.undo(), 1);
        x.ticks(5);
        Due.due("the undone one is gone", x.undo(), 1);
        Due.due("tick", x.count(0), tick + 3);
        Due.due("to the start", x.undo(), 0);
        Due.due("tick", x.count(0), tick);
        Due.due("undo is no change", x.undo(), Due.NOT_POSSIBLE);
    }

    private static void undoLeavesPadAndSlots() {
        InterruptInn x = new InterruptInn();
        x.line(1, 1, 1, 0);
        x.ticks(5);
        x.save(1);
        Due.write(x, "t3;t4");
        x.undo();
        Due.due("pad", x.count(10), 5);
        Due.due("tick", x.count(0), 0);
        Due.due("slot", x.restore(1), 5);
        x.undo();
        Due.due("undone", x.count(0), 0);
        Due.due("slot again", x.restore(1), 5);
        Due.due("carried out", x.carryOut(), 2);
        Due.due("tick then", x.count(0), 12);
    }

    private static void saving() {
        InterruptInn x = Due.busy();
        List<Integer> before = Due.seenWithAll(x);
        Due.due("save", x.save(0), 5);
        Due.due("saving is no change", Due.seenWithAll(x), before);
        x.ticks(10);
        Due.due("save later", x.save(0), 15);
        x.ticks(10);
        Due.due("overwritten", x.restore(0), 15);
    }

    private static void saveErrors() {
        InterruptInn x = new InterruptInn();
        Due.due("slot 2", x.save(2), Due.BAD_VALUE);
        Due.due("slot -1", x.save(-1), Due.BAD_VALUE);
        for (int odd : Due.ODD) {
            Due.due("odd slot", x.save(odd), Due.BAD_VALUE);
        }
        Due.due("nothing saved", x.restore(0), Due.NOT_POSSIBLE);
        Due.due("nothing saved", x.restore(1), Due.NOT_POSSIBLE);
        Due.due("save 0", x.save(0), 0);
        Due.due("nothing saved in 1", x.restore(1), Due.NOT_POSSIBLE);
        Due.due("restore a new one", x.restore(0), 0);
    }

    private static void slotsAreTwo() {
        InterruptInn x = Due.busy();
        List<Integer> first = Due.seen(x);
        x.save(0);
        x.line(7, 7, 7, 0);
        x.raise(4);
        x.ticks(50);
        List<Integer> second = Due.seen(x);
        x.save(1);
        for (int i = 0; i < 3; i++) {
            Due.due("restore 0", x.restore(0), 5);
            Due.due("as it was", Due.seen(x), first);
            x.ticks(9);
            x.stop(0);
            Due.due("restore 1", x.restore(1), 55);
            Due.due("as it was then", Due.seen(x), second);
            x.ticks(9);
            x.change(4, 1, 1, 1);
        }
    }

    private static void restoring() {
        InterruptInn x = Due.busy();
        x.save(0);
        x.ticks(40);
        Due.write(x, "t3");
        List<Integer> later = Due.seen(x);
        Due.due("restore", x.restore(0), 5);
        Due.due("the pad stays", x.count(10), 2);
        Due.due("a change", x.count(11), 6);
        Due.due("undo it", x.undo(), 5);
        Due.due("undone", Due.seen(x), later);
        InterruptInn y = new InterruptInn();
        y.save(0);
        Due.due("restore records", y.restore(0), 0);
        Due.due("history", y.count(11), 1);
        y.line(1, 1, 1, 0);
        y.ticks(3);
        y.restore(0);
        Due.due("no lines", y.count(1), 0);
        Due.due("history stays and grows", y.count(11), 4);
    }

    private static void restoreErrors() {
        InterruptInn x = new InterruptInn();
        x.ticks(1);
        Due.due("slot 2", x.restore(2), Due.BAD_VALUE);
        Due.due("slot -1", x.restore(-1), Due.BAD_VALUE);
        for (int odd : Due.ODD) {
            Due.due("odd slot", x.restore(odd), Due.BAD_VALUE);
        }
        Due.due("nothing saved", x.restore(1), Due.NOT_POSSIBLE);
        Due.due("history", x.count(11), 1);
        Due.due("tick", x.count(0), 1);
    }

    private static List<Integer> wrongCalls(InterruptInn x) {
        List<Integer> answers = new ArrayList<>();
        for (int odd : Due.ODD) {
            answers.add(x.set(odd, 1));
            answers.add(x.set(InterruptInn.BAR, odd));
            answers.add(x.line(1, odd, 1, 0));
            answers.add(x.timer(odd, 1, 9));
            answers.add(x.timer(0, odd, 9));
            answers.add(x.stop(odd));
            answers.add(x.raise(odd));
            answers.add(x.hold(odd, 0, 1));
            answers.add(x.hold(1, odd, 1));
            answers.add(x.mask(odd, 1));
            answers.add(x.mask(0, odd));
            answers.add(x.change(odd, 1, 1, 1));
            answers.add(x.change(0, 1, odd, 1));
            answers.add(x.ticks(odd));
            answers.add(x.put(odd & 0xff00L));
            answers.add(x.save(odd));
            answers.add(x.restore(odd));
        }
        answers.add(x.timer(1, 1, 9));
        answers.add(x.raise(1));
        answers.add(x.hold(0, 0, 1));
        answers.add(x.restore(0));
        answers.add(x.carryOut());
        return answers;
    }

    private static void errorsChangeNothing() {
        InterruptInn x = Due.busy();
        Due.write(x, "t1;");
        List<Integer> before = Due.seenWithAll(x);
        for (int answer : wrongCalls(x)) {
            Due.due("an error", answer < 0 && answer > Due.NONE ? 1 : 0, 1);
        }
        Due.due("nothing changed", Due.seenWithAll(x), before);
    }

    private static void errorsLeaveHistory() {
        InterruptInn x = new InterruptInn();
        x.line(1, 1, 1, 0);
        x.line(1, 1, 1, 1);
        for (int i = 0; i < 6; i++) {
            x.ticks(10);
        }
        for (int i = 5; i >= 0; i--) {
            wrongCalls(x);
            Due.due("undo", x.undo(), i);
            Due.due("tick", x.count(0), 10 * i);
        }
        wrongCalls(x);
        Due.due("nothing to undo", x.undo(), Due.NOT_POSSIBLE);
        Due.due("tick", x.count(0), 0);
    }
}
