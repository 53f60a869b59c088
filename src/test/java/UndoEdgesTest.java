import java.util.ArrayList;
import java.util.List;
import java.util.function.ToIntFunction;

/** Promises 25 to 27: nothing to undo, 6 and 7 changes, what undo, save and restore leave, slots at their edges. */
public final class UndoEdgesTest {
    public static void main(String[] args) {
        nothingToUndo();
        sixAndSevenChanges();
        undoneAreGone();
        eachChangeIsRecorded();
        changesThatChangeNothing();
        whatIsNoChange();
        allIsAsItWas();
        undoLeavesThePad();
        undoLeavesTheSlots();
        undoGoesBackAStep();
        slots();
        nothingSaved();
        savedIsAll();
        saveIsNoChange();
        overwrittenSlot();
        slotsOfTheirOwn();
        restoreKeepsTheSlot();
        restoreIsAChange();
        restoreAndUndo();
        restoreLeavesPadAndHistory();
        restoreOfAnEmptyServer();
        restoreOfTheNest();
        aLineAnewHasNothingOfTheOldOne();
        restoredLater();
        Due.finish();
    }

    private static void nothingToUndo() {
        Due.by("undo: NOT_POSSIBLE if there is none");
        InterruptInn x = new InterruptInn();
        Due.due("a new object", x.undo(), Due.NOT_POSSIBLE);
        Due.due("again", x.undo(), Due.NOT_POSSIBLE);
        x.ticks(1);
        Due.due("one change", x.undo(), 0);
        Due.due("none is left", x.undo(), Due.NOT_POSSIBLE);
        Due.due("tick", x.count(0), 0);
        x.ticks(0);
        Due.due("a call that returned an error", x.undo(), Due.NOT_POSSIBLE);
    }

    private static void sixAndSevenChanges() {
        Due.by("A history of at most 6 states is kept: .. when one more is recorded, the oldest one is dropped");
        for (int changes = 1; changes <= 20; changes++) {
            InterruptInn x = new InterruptInn();
            for (int i = 1; i <= changes; i++) {
                x.ticks(i);
            }
            int kept = Math.min(changes, 6);
            Due.due("changes " + changes, x.count(11), kept);
            int tick = changes * (changes + 1) / 2;
            for (int i = 0; i < kept; i++) {
                tick -= changes - i;
                Due.due("Returns how many changes can be undone then", x.undo(), kept - 1 - i);
                Due.due("tick", x.count(0), tick);
            }
            Due.due("no more", x.undo(), Due.NOT_POSSIBLE);
            Due.due("tick stays", x.count(0), tick);
        }
    }

    private static void undoneAreGone() {
        Due.by("undo: Undoes the latest change");
        InterruptInn x = new InterruptInn();
        for (int i = 0; i < 6; i++) {
            x.ticks(10);
        }
        x.undo();
        x.undo();
        Due.due("tick", x.count(0), 40);
        x.ticks(1);
        Due.due("five", x.count(11), 5);
        x.ticks(2);
        Due.due("six", x.count(11), 6);
        int[] ticks = {41, 40, 30, 20, 10, 0};
        for (int tick : ticks) {
            x.undo();
            Due.due("tick", x.count(0), tick);
        }
        Due.due("no more", x.undo(), Due.NOT_POSSIBLE);
    }

    /** Edge lines 0 and 1, level lines 2 and 3, two timers, two services in the nest; slot 0; two changes to undo. */
    private static InterruptInn amidst() {
        InterruptInn x = new InterruptInn();
        x.line(3, 20, 5, 0);
        x.line(1, 4, 2, 0);
        x.line(6, 9, 0, 1);
        x.line(2, 5, 0, 1);
        x.timer(1, 7, 3);
        x.timer(0, 30, 11);
        x.raise(0);
        x.ticks(3);
        x.hold(2, 2, 1);
        x.hold(2, 0, 1);
        x.hold(3, 1, 1);
        x.ticks(2);
        x.mask(3, 1);
        x.save(0);
        for (int i = 0; i < 6; i++) {
            x.undo();
        }
        x.restore(0);
        x.ticks(2);
        return x;
    }

    private static List<ToIntFunction<InterruptInn>> changes() {
        List<ToIntFunction<InterruptInn>> all = new ArrayList<>();
        all.add(x -> x.set(InterruptInn.CAP, 7));
        all.add(x -> x.line(9, 9, 9, 1));
        all.add(x -> x.timer(1, 9, 9));
        all.add(x -> x.stop(0));
        all.add(x -> x.raise(0));
        all.add(x -> x.hold(2, 3, 1));
        all.add(x -> x.mask(1, 1));
        all.add(x -> x.change(1, 9, 9, 9));
        all.add(x -> x.ticks(33));
        all.add(x -> Due.write(x, "uA;t4") + x.carryOut());
        all.add(x -> x.restore(0));
        return all;
    }

    private static void eachChangeIsRecorded() {
        Due.by("each method that is a change, and returns no error, records the state before it");
        List<ToIntFunction<InterruptInn>> changes = changes();
        for (int i = 0; i < changes.size(); i++) {
            InterruptInn x = amidst();
            List<Integer> before = Due.seen(x);
            Due.due("two to undo", x.count(11), 2);
            changes.get(i).applyAsInt(x);
            Due.due("change " + i, x.count(11), 3);
            Due.due("it did nothing, " + i, Due.seen(x).equals(before) ? 1 : 0, 0);
            Due.due("undo " + i, x.undo(), 2);
            Due.due("as it was, " + i, Due.seen(x), before);
        }
    }

    private static void unchanging(String call, int answer, ToIntFunction<InterruptInn> change) {
        InterruptInn x = amidst();
        x.mask(1, 1);
        x.hold(3, 2, 1);
        x.save(1);
        List<Integer> before = Due.seen(x);
        Due.due(call, change.applyAsInt(x), answer);
        Due.due(call + ": nothing is different", Due.seen(x), before);
        Due.due(call + ": it is recorded", x.count(11), 5);
        Due.due(call + ": undo", x.undo(), 4);
        Due.due(call + ": undone", Due.seen(x), before);
        x.undo();
        Due.due(call + ": the one ahead of it", x.ofLine(3, 9), 2);
    }

    private static void changesThatChangeNothing() {
        Due.by("records the state before it (also if nothing is different then)");
        unchanging("set", 24, x -> x.set(InterruptInn.CAP, 24));
        unchanging("hold", 6, x -> x.hold(3, 2, 1));
        unchanging("hold, down", 6, x -> x.hold(3, 3, 0));
        unchanging("mask", 1, x -> x.mask(1, 1));
        unchanging("mask, taken back", 0, x -> x.mask(0, 0));
        unchanging("change", 1, x -> x.change(1, 1, 4, 2));
        unchanging("restore", 7, x -> x.restore(1));
        unchanging("carryOut", 0, x -> Due.carry(x, "t0"));
        unchanging("carryOut of orders", 2, x -> Due.carry(x, "mB;hD2"));
        InterruptInn y = amidst();
        Due.due("an edge that is lost", y.raise(1), 0);
        Due.due("is recorded", y.count(11), 3);
        y.undo();
        Due.due("it did not come", y.ofLine(1, 10), 1);
        Due.due("it is not lost", y.ofLine(1, 11), 0);
    }

    private static void whatIsNoChange() {
        Due.by("each method that is a change (the others record nothing)");
        InterruptInn x = amidst();
        int count = x.count(11);
        x.put('u');
        x.fault();
        x.wipe();
        x.save(1);
        x.ofLine(0, 0);
        x.ofNest(0, 0);
        x.ofTimer(0, 0);
        x.count(0);
        x.beginsIn(0);
        x.idleIn();
        x.missesIn(500);
        x.greatestBar(0, 200);
        x.bound(0);
        x.load();
        x.carryOut();
        Due.due("changes", x.count(11), count);
    }

    private static void allIsAsItWas() {
        Due.by("undo: everything except the pad, the slots and the history is as it was before it");
        List<ToIntFunction<InterruptInn>> changes = changes();
        for (int i = 0; i < changes.size(); i++) {
            InterruptInn x = amidst();
            InterruptInn untouched = amidst();
                changes.get(i).applyAsInt(x);
            x.undo();
            Due.due("change " + i, Due.seen(x), Due.seen(untouched));
            x.ticks(250);
            untouched.ticks(250);
            Due.due("later, change " + i, Due.seen(x), Due.seen(untouched));
            x.undo();
            x.undo();
            untouched.undo();
            untouched.undo();
            Due.due("undone, change " + i, Due.seen(x), Due.seen(untouched));
        }
    }

    private static void undoLeavesThePad() {
        Due.by("undo: everything except the pad");
        InterruptInn x = new InterruptInn();
        Due.write(x, "t4");
        x.ticks(1);
        Due.write(x, ";t5");
        x.ticks(1);
        x.undo();
        Due.due("put behind the change that is left", x.count(10), 5);
        x.undo();
        Due.due("put behind the change that is undone", x.count(10), 5);
        Due.due("both orders", x.carryOut(), 2);
        x.undo();
        Due.due("what was carried out does not come back", x.count(10), 0);
        Due.write(x, "t6");
        x.ticks(1);
        x.wipe();
        x.undo();
        Due.due("what was wiped does not come back", x.count(10), 0);
    }

    private static void undoLeavesTheSlots() {
        Due.by("undo: everything except .. the slots");
        InterruptInn x = new InterruptInn();
        x.ticks(3);
        x.save(0);
        x.ticks(4);
        x.save(1);
        x.undo();
        x.undo();
        Due.due("tick", x.count(0), 0);
        Due.due("slot 1", x.restore(1), 7);
        Due.due("slot 0", x.restore(0), 3);
        x.save(1);
        x.undo();
        Due.due("slot 1 is as it was overwritten", x.restore(1), 3);
    }

    private static void undoGoesBackAStep() {
        Due.by("undo: Undoes the latest change: .. as it was before it (each step)");
        InterruptInn x = amidst();
        List<List<Integer>> seen = new ArrayList<>();
        List<ToIntFunction<InterruptInn>> changes = changes();
        for (int i = 0; i < 6; i++) {
            seen.add(Due.seen(x));
            changes.get(i).applyAsInt(x);
        }
        for (int i = 5; i >= 0; i--) {
            Due.due("undo", x.undo(), i);
            Due.due("step " + i, Due.seen(x), seen.get(i));
        }
    }

    private static void slots() {
        Due.by("save, restore: slot: 0 or 1; BAD_VALUE if there is no such slot");
        InterruptInn x = new InterruptInn();
        x.ticks(9);
        Due.due("save(-1)", x.save(-1), Due.BAD_VALUE);
        Due.due("save(2)", x.save(2), Due.BAD_VALUE);
        Due.due("restore(-1)", x.restore(-1), Due.BAD_VALUE);
        Due.due("restore(2)", x.restore(2), Due.BAD_VALUE);
        Due.by("save: Returns the tick");
        Due.due("save(0)", x.save(0), 9);
        Due.due("save(1)", x.save(1), 9);
        x.ticks(1);
        Due.by("restore: Returns the tick then");
        Due.due("restore(0)", x.restore(0), 9);
        Due.due("restore(1)", x.restore(1), 9);
    }

    private static void nothingSaved() {
        Due.by("restore: NOT_POSSIBLE if nothing was saved in it");
        InterruptInn x = new InterruptInn();
        x.ticks(9);
        Due.due("slot 0", x.restore(0), Due.NOT_POSSIBLE);
        Due.due("slot 1", x.restore(1), Due.NOT_POSSIBLE);
        Due.due("the tick stays", x.count(0), 9);
        Due.due("no change", x.count(11), 1);
        x.save(1);
        Due.due("slot 0", x.restore(0), Due.NOT_POSSIBLE);
        Due.due("slot 1", x.restore(1), 9);
        InterruptInn y = new InterruptInn();
        y.save(0);
        Due.due("slot 1", y.restore(1), Due.NOT_POSSIBLE);
        y.save(2);
        Due.due("slot 1 again", y.restore(1), Due.NOT_POSSIBLE);
    }

    private static void savedIsAll() {
        Due.by("save: Saves everything except the pad, the history and the slots");
        List<ToIntFunction<InterruptInn>> changes = changes();
        for (int slot = 0; slot < 2; slot++) {
            InterruptInn x = amidst();
            InterruptInn untouched = amidst();
            x.save(slot);
            for (int i = 0; i < 10; i++) {
                changes.get(i).applyAsInt(x);
            }
            x.restore(slot);
            Due.due("slot " + slot, Due.seen(x), Due.seen(untouched));
            x.ticks(250);
            untouched.ticks(250);
            Due.due("later, slot " + slot, Due.seen(x), Due.seen(untouched));
        }
    }

    private static void saveIsNoChange() {
        Due.by("save: (no change)");
        InterruptInn x = Due.busy();
        Due.write(x, "t4");
        List<Integer> before = Due.seenWithAll(x);
        x.save(0);
        x.save(1);
        Due.due("seen", Due.seenWithAll(x), before);
        x.undo();
        Due.due("undo is of the change ahead of it", x.ofLine(3, 4), 0);
    }

    private static void overwrittenSlot() {
        Due.by("save: and overwrites what was saved there");
        InterruptInn x = new InterruptInn();
        x.line(1, 1, 1, 0);
        x.ticks(2);
        x.save(0);
        x.line(2, 2, 2, 0);
        x.ticks(3);
        Due.due("overwrite", x.save(0), 5);
        x.line(3, 3, 3, 0);
        x.ticks(4);
        Due.due("the second one", x.restore(0), 5);
        Due.due("its lines", x.count(1), 2);
        InterruptInn y = new InterruptInn();
        y.line(9, 9, 9, 0);
        y.save(1);
        y.undo();
        y.save(1);
        y.line(8, 8, 8, 0);
        Due.due("overwritten by less", y.restore(1), 0);
        Due.due("no line", y.count(1), 0);
    }

    private static void slotsOfTheirOwn() {
        Due.by("save: in a slot (0 or 1, each of its own)");
        InterruptInn x = new InterruptInn();
        x.ticks(2);
        x.save(0);
        x.ticks(3);
        x.save(1);
        x.ticks(4);
        Due.due("slot 0", x.restore(0), 2);
        Due.due("slot 1", x.restore(1), 5);
        Due.due("slot 0", x.restore(0), 2);
        x.save(1);
        Due.due("slot 0 is as it was", x.restore(0), 2);
        Due.due("slot 1 is overwritten", x.restore(1), 2);
    }

    private static void restoreKeepsTheSlot() {
        Due.by("restore: Restores what was saved last in a slot, which keeps it");
        InterruptInn x = Due.busy();
        List<Integer> saved = Due.seen(x);
        x.save(1);
        for (int i = 0; i < 4; i++) {
            x.ticks(50);
            x.set(InterruptInn.AGE, i);
            x.raise(2);
            x.mask(0, 1);
            x.stop(0);
            x.line(5, 5, 5, 1);
            Due.due("restore", x.restore(1), 5);
            Due.due("restored", Due.seen(x), saved);
        }
    }

    private static void restoreIsAChange() {
        Due.by("restore: This is a change");
        InterruptInn x = new InterruptInn();
        x.save(0);
        for (int i = 1; i <= 8; i++) {
            Due.due("restore", x.restore(0), 0);
            Due.due("changes", x.count(11), Math.min(i, 6));
        }
    }

    private static void restoreAndUndo() {
        Due.by("restore, and then undo");
        InterruptInn x = Due.busy();
        x.save(0);
        x.ticks(44);
        x.line(4, 4, 4, 0);
        x.set(InterruptInn.GAP, 9);
        List<Integer> later = Due.seen(x);
        Due.due("restore", x.restore(0), 5);
        Due.due("undo", x.undo(), 5);
        Due.due("as it was ahead of restore", Due.seen(x), later);
        Due.due("undo", x.undo(), 4);
        Due.due("the change ahead of it", x.count(14), 1);
        Due.due("restore again", x.restore(0), 5);
        Due.due("GAP", x.count(14), 1);
        Due.due("tick", x.count(0), 5);
    }

    private static void restoreLeavesPadAndHistory() {
        Due.by("restore: (what was saved is) everything except the pad, the history and the slots");
        InterruptInn x = new InterruptInn();
        Due.write(x, "t1");
        x.ticks(2);
        x.save(0);
        Due.write(x, ";t2");
        x.ticks(3);
        x.ticks(4);
        x.save(1);
        Due.due("restore", x.restore(0), 2);
        Due.due("the pad stays", x.count(10), 5);
        Due.due("the history stays", x.count(11), 4);
        Due.due("undo restore", x.undo(), 3);
        Due.due("tick", x.count(0), 9);
        Due.due("undo", x.undo(), 2);
        Due.due("tick", x.count(0), 5);
        x.restore(0);
        Due.due("the other slot stays", x.restore(1), 9);
        Due.due("the pad's orders", x.carryOut(), 2);
    }

    private static void restoreOfAnEmptyServer() {
        Due.by("restore: Restores what was saved (a server without lines and timers)");
        InterruptInn x = new InterruptInn();
        x.save(0);
        x.set(InterruptInn.DEEPEST, 8);
        for (int line = 0; line < 12; line++) {
            x.line(line, 9, 0, 0);
        }
        for (int timer = 0; timer < 6; timer++) {
            x.timer(timer, 9, 0);
        }
        x.ticks(40);
        Due.due("restore", x.restore(0), 0);
        Due.due("as a new object", Due.seen(x), Due.seen(new InterruptInn()));
        Due.due("no line", x.raise(0), Due.NO_SUCH);
        Due.due("no timer", x.stop(0), Due.NO_SUCH);
        Due.due("there is room for a line", x.line(3, 3, 3, 1), 0);
        Due.due("which holds nothing", x.ofLine(0, 12), 0);
        x.undo();
        x.undo();
        Due.due("12 lines again", x.count(1), 12);
        Due.due("6 timers again", x.count(2), 6);
        Due.due("the tick again", x.count(0), 40);
    }

    private static void restoreOfTheNest() {
        Due.by("save: Saves everything (the nest)");
        InterruptInn x = new InterruptInn();
        for (int line = 0; line < 4; line++) {
            x.line(line, 5, 0, 0);
        }
        x.raise(1);
        x.ticks(1);
        x.raise(3);
        x.ticks(1);
        List<Integer> saved = Due.seen(x);
        x.save(0);
        x.ticks(20);
        Due.due("an empty nest", x.count(3), 0);
        x.raise(0);
        x.ticks(1);
        x.raise(2);
        x.ticks(1);
        Due.due("other lines in it", x.ofNest(0, 0), 0);
        x.restore(0);
        Due.due("restored", Due.seen(x), saved);
        x.undo();
        Due.due("undone", x.ofNest(1, 0), 2);
        x.restore(0);
        x.ticks(10);
        Due.due("they end", x.ofLine(1, 13) + x.ofLine(3, 13), 2);
    }

    private static void aLineAnewHasNothingOfTheOldOne() {
        Due.by("undo, restore: everything is as it was before (a line that was made and undone is made anew)");
        for (int level = 0; level < 2; level++) {
            InterruptInn x = new InterruptInn();
            x.line(9, 1, 1, level);
            x.save(0);
            x.undo();
            x.save(1);
            x.restore(0);
            for (int i = 0; i < 4; i++) {
                x.hold(0, i, 1);
                x.raise(0);
                x.raise(0);
                x.set(InterruptInn.BAR, 31);
                x.ticks(5);
                x.set(InterruptInn.BAR, 0);
                x.ticks(3);
            }
            x.mask(0, 1);
            x.hold(0, 3, 1);
            x.raise(0);
            Due.due("it has begun", x.ofLine(0, 12) > 1 ? 1 : 0, 1);
            Due.due("it has missed", x.ofLine(0, 16) > 0 ? 1 : 0, 1);
            x.restore(1);
            Due.due("no line", x.count(1), 0);
            x.line(9, 1, 1, level);
            InterruptInn y = new InterruptInn();
            y.line(9, 1, 1, level);
            Due.due("made anew", Due.seen(x), Due.seen(y));
        }
    }

    private static void restoredLater() {
        Due.by("restore: (first ticks of timers are those of the restored tick)");
        InterruptInn x = new InterruptInn();
        x.line(1, 1, 0, 0);
        x.timer(0, 7, 3);
        x.save(0);
        x.ticks(100);
        x.restore(0);
        Due.due("next", x.ofTimer(0, 2), 3);
        Due.due("a first tick that is the present one again", x.timer(0, 9, 0), 1);
        Due.due("501 later", x.timer(0, 9, 501), Due.BAD_VALUE);
        x.ticks(4);
        Due.due("edges of the ticks 0 and 3", x.ofLine(0, 10), 2);
    }
}
