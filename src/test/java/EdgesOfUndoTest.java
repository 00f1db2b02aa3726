import java.util.function.ToIntFunction;

/** The sentences of the promises 21 to 23 at their bounds: undo, save, restore. */
public final class EdgesOfUndoTest {
    private static final int IN = 0, OUT = 1, ROOM = 2, HEIGHT = 3, SCROLL = 7;
    private static final int LOW = Integer.MIN_VALUE, HIGH = Integer.MAX_VALUE;

    public static void main(String[] args) throws Exception {
        Check.run(EdgesOfUndoTest.class);
    }

    private static void due(String call, long got, long want) {
        Check.due(call, got, want);
    }

    /** A change of a busy object is undone: everything is as it was, the values and what comes later, too. */
    private static void undoes(String call, ToIntFunction<LineDoubler> change) {
        LineDoubler x = Scenes.busy();
        LineDoubler twin = Scenes.busy();
        due(call + " is done", change.applyAsInt(x) >= 0 ? 1 : 0, 1);
        due("undo of " + call, x.undo(), 5);
        Check.same("after undo of " + call, Check.seen(x), Check.seen(twin));
        Check.same("values after undo of " + call, Check.values(x), Check.values(twin));
        due("pass", x.pass(57), twin.pass(57));
        Check.same("later than undo of " + call, Check.seen(x), Check.seen(twin));
    }

    // ---- promise 21: undo

    @Sentence("Undoes the latest change: everything except the pad, the slots and the history is as it was before it.")
    static void promise21UndoesEachKindOfChange() {
        undoes("set IN", x -> x.set(IN, 50));
        undoes("set OUT", x -> x.set(OUT, 50));
        undoes("set ROOM", x -> x.set(ROOM, 16));
        undoes("set SCROLL", x -> x.set(SCROLL, 50));
        undoes("value", x -> x.value(1, 50));
        undoes("slip of the lines", x -> x.slip(0, 50));
        undoes("slip of the rows", x -> x.slip(1, 50));
        undoes("pass of 1", x -> x.pass(1));
        undoes("pass of 999", x -> x.pass(999));
        undoes("flush", LineDoubler::flush);
        undoes("carryOut", LineDoubler::carryOut);
        undoes("restore of 0", x -> x.restore(0));
        undoes("restore of 1", x -> x.restore(1));
    }

    @Sentence("everything except the pad,")
    static void promise21ThePadStays() {
        LineDoubler x = new LineDoubler();
        x.put('t');
        x.pass(3);
        x.put('7');
        due("undo", x.undo(), 0);
        due("length", x.count(24), 2);
        due("fault", x.fault(), -6);
        due("carryOut", x.carryOut(), 1);
        due("tick of now", x.count(0), 7);
        due("undo", x.undo(), 0);
        due("the pad is empty still", x.count(24), 0);
    }

    @Sentence("the slots")
    static void promise21TheSlotsStay() {
        LineDoubler x = new LineDoubler();
        x.pass(3);
        x.save(0);
        due("undo", x.undo(), 0);
        due("the slot", x.restore(0), 3);
        x.pass(4);
        x.save(1);
        due("undo", x.undo(), 1);
        due("undo of restore", x.undo(), 0);
        due("tick of now", x.count(0), 0);
        due("the slot 1", x.restore(1), 7);
        due("the slot 0", x.restore(0), 3);
    }

    @Sentence("and the history is as it was before it.")
    static void promise21AnUndoIsNotUndone() {
        LineDoubler x = new LineDoubler();
        x.pass(1);
        x.pass(2);
        due("undo", x.undo(), 1);
        due("tick of now", x.count(0), 1);
        due("undo", x.undo(), 0);
        due("tick of now", x.count(0), 0);
        due("no more", x.undo(), -5);
    }

    @Sentence("A history of at most 6 states is kept:")
    static void promise21AtMost6States() {
        for (int changes = 0; changes <= 15; changes++) {
            LineDoubler x = new LineDoubler();
            for (int change = 1; change <= changes; change++) {
                x.pass(change);
                due("can be undone", x.count(25), Math.min(6, change));
            }
            int kept = Math.min(6, changes);
            for (int undone = 1; undone <= kept; undone++) {
                due("undo", x.undo(), kept - undone);
                due("can be undone", x.count(25), kept - undone);
                int left = changes - undone;
                due("tick of now", x.count(0), left * (left + 1) / 2);
            }
            due("no more", x.undo(), -5);
        }
    }

    @Sentence("each method that is a change, and returns no error, records the state before it (also if nothing is different "
            + "then);")
    static void promise21RecordsAlsoIfNothingIsDifferent() {
        LineDoubler x = new LineDoubler();
        x.save(0);
        x.set(IN, 10);
        due("set", x.count(25), 1);
        x.value(0, 0);
        due("value", x.count(25), 2);
        x.flush();
        due("flush", x.count(25), 3);
        x.restore(0);
        due("restore", x.count(25), 4);
        Check.type(x, "i1");
        x.carryOut();
        due("carryOut", x.count(25), 5);
        for (int left = 4; left >= 0; left--) {
            due("undo", x.undo(), left);
            Check.same("still as at first", Check.seen(x), Check.seen(new LineDoubler()));
        }
    }

    @Sentence("and returns no error,")
    static void promise21ErrorsRecordNothing() {
        for (int changes : new int[] {0, 1, 5, 6, 7}) {
            LineDoubler x = new LineDoubler();
            for (int change = 0; change < changes; change++) {
                x.pass(1);
            }
            x.set(IN, 1);
            x.set(8, 1);
            x.value(16, 0);
            x.value(0, 256);
            x.slip(0, 0);
            x.pass(1000);
            x.carryOut();
            x.restore(1);
            x.restore(2);
            int kept = Math.min(6, changes);
            due("can be undone", x.count(25), kept);
            for (int undone = 1; undone <= kept; undone++) {
                x.undo();
                due("tick of now", x.count(0), changes - undone);
            }
            due("no more", x.undo(), -5);
        }
    }

    @Sentence("each method that is a change,")
    static void promise21TheOthersRecordNothing() {
        LineDoubler x = new LineDoubler();
        x.pass(5);
        x.save(0);
        Check.type(x, "t1");
        x.fault();
        x.wipe();
        x.waiting(0, 0);
        x.row(0, 0);
        x.ofMissing(0, 0);
        x.count(0);
        x.shown();
        x.ratio();
        x.fill();
        x.would(9, 0);
        x.leastRoom(9);
        x.bestOut(9, 0);
        due("can be undone", x.count(25), 1);
        due("undo", x.undo(), 0);
        due("tick of now", x.count(0), 0);
    }

    @Sentence("when one more is recorded, the oldest one is dropped.")
    static void promise21TheOldestOneIsDropped() {
        LineDoubler x = new LineDoubler();
        for (int change = 0; change < 6; change++) {
            x.pass(10);
        }
        due("six", x.count(25), 6);
        x.pass(10);
        due("six still", x.count(25), 6);
        for (int left = 5; left >= 0; left--) {
            due("undo", x.undo(), left);
        }
        due("the state at 0 is dropped", x.count(0), 10);
        due("no more", x.undo(), -5);
    }

    @Sentence("when one more is recorded, the oldest one is dropped.")
    static void promise21ChangesBehindAnUndo() {
        LineDoubler x = new LineDoubler();
        for (int change = 0; change < 8; change++) {
            x.pass(10);
        }
        x.undo();
        x.undo();
        x.pass(1);
        due("five", x.count(25), 5);
        x.pass(1);
        due("six", x.count(25), 6);
        x.pass(1);
        due("six still", x.count(25), 6);
        int[] ticks = {62, 61, 60, 50, 40, 30};
        for (int tick : ticks) {
            x.undo();
            due("tick of now", x.count(0), tick);
        }
        due("no more", x.undo(), -5);
    }

    @Sentence("An order of a text records nothing by itself.")
    static void promise21AnOrderRecordsNothingByItself() {
        LineDoubler x = new LineDoubler();
        Check.type(x, "t1;t1;t1;t1;t1;t1;t1;t1");
        due("orders", x.carryOut(), 8);
        due("one change", x.count(25), 1);
        due("undo", x.undo(), 0);
        due("tick of now", x.count(0), 0);
    }

    @Sentence("Returns how many changes can be undone then; NOT_POSSIBLE if there is none.")
    static void promise21ReturnsHowManyOrAnError() {
        LineDoubler x = new LineDoubler();
        due("none", x.undo(), -5);
        x.pass(1);
        x.pass(1);
        due("one left", x.undo(), 1);
        due("none left", x.undo(), 0);
        due("none", x.undo(), -5);
        due("tick of now", x.count(0), 0);
        x.pass(1);
        due("none left", x.undo(), 0);
    }

    // ---- promise 22: save

    @Sentence("Saves everything except the pad, the history and the slots in a slot,")
    static void promise22SavesEverything() {
        for (int slot = 0; slot < 2; slot++) {
            LineDoubler x = Scenes.busy();
            LineDoubler twin = Scenes.busy();
            due("save", x.save(slot), 69);
            x.value(0, 0);
            x.value(15, 0);
            x.set(IN, 40);
            x.flush();
            x.pass(99);
            due("restore", x.restore(slot), 69);
            Check.same("as it was", Check.seen(x), Check.seen(twin));
            Check.same("values", Check.values(x), Check.values(twin));
        }
    }

    @Sentence("except the pad, the history and the slots in a slot,")
    static void promise22NotThePadNorTheHistoryNorTheSlots() {
        LineDoubler x = new LineDoubler();
        x.pass(1);
        x.save(1);
        x.put('i');
        x.save(0);
        x.pass(1);
        x.save(1);
        x.put('9');
        x.pass(1);
        due("restore", x.restore(0), 1);
        due("pad", x.count(24), 2);
        due("history", x.count(25), 4);
        due("the other slot", x.restore(1), 2);
        due("the pad is carried out", x.carryOut(), 1);
        due("in", x.count(16), 9);
    }

    @Sentence("and overwrites what was saved there.")
    static void promise22OverwritesWhatWasSavedThere() {
        LineDoubler x = new LineDoubler();
        x.save(0);
        x.save(1);
        x.pass(5);
        due("0 again", x.save(0), 5);
        x.pass(5);
        due("0", x.restore(0), 5);
        due("1 has its own", x.restore(1), 0);
        due("0", x.restore(0), 5);
    }

    @Sentence("and overwrites what was saved there.")
    static void promise22SaveIsNoChange() {
        LineDoubler x = new LineDoubler();
        x.save(0);
        due("history", x.count(25), 0);
        due("undo", x.undo(), -5);
    }

    @Sentence("`slot`: 0 or 1")
    static void promise22SlotsAre0And1() {
        LineDoubler x = new LineDoubler();
        x.pass(2);
        due("-1", x.save(-1), -2);
        due("0", x.save(0), 2);
        due("1", x.save(1), 2);
        due("2", x.save(2), -2);
    }

    @Sentence("Returns the tick of now; BAD_VALUE if there is no such slot.")
    static void promise22ReturnsTheTickOfNowOrAnError() {
        LineDoubler x = new LineDoubler();
        due("at 0", x.save(0), 0);
        due("low", x.save(LOW), -2);
        due("high", x.save(HIGH), -2);
        x = Scenes.at(99999);
        due("at 99999", x.save(1), 99999);
        due("the slot 0 is empty", x.restore(0), -5);
    }

    // ---- promise 23: restore

    @Sentence("Restores what was saved last in a slot, which keeps it.")
    static void promise23TheSlotKeepsIt() {
        LineDoubler x = new LineDoubler();
        x.pass(4);
        x.save(0);
        String saved = Check.seen(x);
        for (int time = 0; time < 3; time++) {
            x.pass(50);
            x.flush();
            x.set(IN, 20 + time);
            due("restore", x.restore(0), 4);
            Check.same("as it was saved", Check.seen(x), saved);
        }
    }

    @Sentence("Restores what was saved last in a slot,")
    static void promise23RestoresWhatWasSavedLast() {
        LineDoubler x = new LineDoubler();
        for (int tick = 1; tick <= 5; tick++) {
            x.pass(1);
            x.save(tick % 2);
        }
        due("the odd ones", x.restore(1), 5);
        due("the even ones", x.restore(0), 4);
    }

    @Sentence("This is a change.")
    static void promise23IsAChange() {
        LineDoubler x = new LineDoubler();
        x.save(1);
        x.set(HEIGHT, 9);
        x.pass(30);
        String before = Check.seen(x);
        due("restore", x.restore(1), 0);
        due("changes", x.count(25), 3);
        due("the height of then", x.count(19), 4);
        due("it can change again", x.set(HEIGHT, 3), 4);
        due("undo", x.undo(), 3);
        due("undo", x.undo(), 2);
        Check.same("as it was before", Check.seen(x), before);
    }

    @Sentence("This is a change.")
    static void promise23RestoreDropsTheOldestOfSixStates() {
        LineDoubler x = new LineDoubler();
        x.save(0);
        for (int change = 0; change < 6; change++) {
            x.pass(1);
        }
        due("restore", x.restore(0), 0);
        due("six", x.count(25), 6);
        for (int tick = 6; tick >= 1; tick--) {
            x.undo();
            due("tick of now", x.count(0), tick);
        }
        due("no more", x.undo(), -5);
    }

    @Sentence("`slot`: 0 or 1")
    static void promise23SlotsAre0And1() {
        LineDoubler x = new LineDoubler();
        x.save(0);
        x.save(1);
        due("-1", x.restore(-1), -2);
        due("0", x.restore(0), 0);
        due("1", x.restore(1), 0);
        due("2", x.restore(2), -2);
        due("changes", x.count(25), 2);
    }

    @Sentence("Returns the tick of now then; BAD_VALUE if there is no such slot;")
    static void promise23ReturnsTheTickOfNowOrBadValue() {
        LineDoubler x = Scenes.at(999);
        x.save(0);
        x.pass(1);
        due("restore", x.restore(0), 999);
        due("tick of now", x.count(0), 999);
        due("low", x.restore(LOW), -2);
        due("high", x.restore(HIGH), -2);
        due("tick of now", x.count(0), 999);
    }

    @Sentence("NOT_POSSIBLE if nothing was saved in it.")
    static void promise23NothingWasSavedInIt() {
        for (int slot = 0; slot < 2; slot++) {
            LineDoubler x = new LineDoubler();
            due("nothing", x.restore(slot), -5);
            x.save(1 - slot);
            due("nothing still", x.restore(slot), -5);
            due("no change", x.count(25), 0);
            x.save(slot);
            due("something", x.restore(slot), 0);
            due("a change", x.count(25), 1);
        }
    }
}
