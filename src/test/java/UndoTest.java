/** Promises 21 to 23: undo, save, restore. */
public final class UndoTest {
    public static void main(String[] args) throws Exception {
        Check.run(UndoTest.class);
    }

    private static void due(String call, long got, long want) {
        Check.due(call, got, want);
    }

    private static int change(LineDoubler x, int kind) {
        switch (kind) {
            case 0:
                return x.set(LineDoubler.SCROLL, x.count(23) + 1);
            case 1:
                return x.value(3, 99);
            case 2:
                return x.slip(0, 7);
            case 3:
                return x.pass(333);
            case 4:
                return x.flush();
            case 5:
                Check.type(x, "t40;<3;v2=1;o9");
                return x.carryOut();
            default:
                return x.restore(1);
        }
    }

    /** An object with lines that wait, missing ones, screens of each kind, and something in the slot 1. */
    private static LineDoubler busy() {
        LineDoubler x = new LineDoubler();
        x.set(LineDoubler.HEIGHT, 2);
        x.set(LineDoubler.IN, 9);
        x.value(0, 123);
        x.save(1);
        x.pass(500);
        x.set(LineDoubler.IN, 11);
        x.pass(501);
        x.set(LineDoubler.SCROLL, 1);
        x.set(LineDoubler.SYNC, 1);
        x.pass(301);
        x.set(LineDoubler.IN, 3);
        x.pass(23);
        return x;
    }

    static void promise21UndoesEachKindOfChange() {
        for (int kind = 0; kind < 7; kind++) {
            // The values are those of another object: to look at them would record states.
            String values = Check.values(busy());
            LineDoubler x = busy();
            String before = Check.seen(x);
            due("changed", change(x, kind) >= 0 ? 1 : 0, 1);
            due("undo", x.undo(), 5);
            Check.same("after undo of " + kind, Check.seen(x), before);
            Check.same("values", Check.values(x), values);
        }
    }

    static void promise21SixStatesAreKept() {
        LineDoubler x = new LineDoubler();
        for (int i = 1; i <= 20; i++) {
            x.pass(1);
            due("undoable", x.count(25), Math.min(6, i));
        }
        for (int i = 5; i >= 0; i--) {
            due("undo", x.undo(), i);
            due("tick", x.count(0), 14 + i);
        }
        due("no more", x.undo(), -5);
        due("tick", x.count(0), 14);
        due("undoable", x.count(25), 0);
        x.pass(5);
        due("tick", x.count(0), 19);
        due("undo", x.undo(), 0);
        due("tick", x.count(0), 14);
    }

    static void promise21UndoAndChangeInTurn() {
        LineDoubler x = new LineDoubler();
        for (int i = 0; i < 9; i++) {
            x.pass(10);
        }
        x.undo();
        x.undo();
        x.pass(1);
        due("tick", x.count(0), 71);
        due("undoable", x.count(25), 5);
        x.pass(1);
        x.pass(1);
        due("undoable", x.count(25), 6);
        int[] ticks = {72, 71, 70, 60, 50, 40};
        for (int tick : ticks) {
            x.undo();
            due("tick", x.count(0), tick);
        }
        due("no more", x.undo(), -5);
    }

    static void promise21RecordsAlsoWhatChangesNothing() {
        LineDoubler x = new LineDoubler();
        x.set(LineDoubler.IN, 10);
        due("set", x.count(25), 1);
        x.value(2, 20);
        due("value", x.count(25), 2);
        x.flush();
        due("flush", x.count(25), 3);
        x.save(0);
        due("save records nothing", x.count(25), 3);
        x.restore(0);
        due("restore", x.count(25), 4);
        Check.type(x, "t0");
        due("put records nothing", x.count(25), 4);
        x.carryOut();
        due("carryOut", x.count(25), 5);
        Check.type(x, "t");
        x.wipe();
        x.fault();
        x.would(5, 0);
        x.leastRoom(5);
        x.bestOut(5, 0);
        due("the others record nothing", x.count(25), 5);
    }

    static void promise21ErrorsRecordNothing() {
        LineDoubler x = new LineDoubler();
        x.pass(1);
        x.set(LineDoubler.HEIGHT, 5);
        x.set(9, 9);
        x.value(16, 0);
        x.value(0, 256);
        x.slip(2, 2);
        x.pass(0);
        x.carryOut();
        x.restore(0);
        x.restore(2);
        x.save(2);
        x.put(0);
        due("undoable", x.count(25), 1);
        due("undo", x.undo(), 0);
        due("tick", x.count(0), 0);
    }

    static void promise21ErrorsSpareAFullHistory() {
        LineDoubler x = new LineDoubler();
        for (int i = 0; i < 8; i++) {
            x.pass(1);
        }
        for (int i = 0; i < 20; i++) {
            due("error", x.pass(0), -2);
        }
        int tick = 8;
        for (int i = 0; i < 6; i++) {
            x.undo();
            tick--;
            due("tick", x.count(0), tick);
        }
    }

    static void promise21PadAndSlotsStay() {
        LineDoubler x = new LineDoubler();
        x.pass(5);
        x.save(0);
        Check.type(x, "t9;o");
        x.pass(6);
        Check.type(x, "7");
        due("undo", x.undo(), 1);
        due("pad", x.count(24), 5);
        due("undo", x.undo(), 0);
        due("pad", x.count(24), 5);
        due("slot", x.restore(0), 5);
        due("tick", x.count(0), 5);
        due("undo", x.undo(), 0);
        due("tick", x.count(0), 0);
        due("the text stays", x.carryOut(), 2);
        due("tick", x.count(0), 9);
        due("out", x.count(17), 7);
        x.save(0);
        due("undo", x.undo(), 0);
        due("the slot stays", x.restore(0), 9);
    }

    static void promise22SaveRangesAndOverwriting() {
        LineDoubler x = new LineDoubler();
        due("-1", x.save(-1), -2);
        due("2", x.save(2), -2);
        due("max", x.save(Integer.MAX_VALUE), -2);
        due("min", x.save(Integer.MIN_VALUE), -2);
        due("0", x.save(0), 0);
        x.pass(12);
        due("1", x.save(1), 12);
        x.pass(12);
        due("0 again", x.save(0), 24);
        due("no change", x.count(25), 2);
        due("restore 1", x.restore(1), 12);
        due("restore 0", x.restore(0), 24);
        due("restore 1", x.restore(1), 12);
    }

    static void promise23RestoreRanges() {
        LineDoubler x = new LineDoubler();
        x.pass(3);
        String before = Check.all(x);
        due("-1", x.restore(-1), -2);
        due("2", x.restore(2), -2);
        due("max", x.restore(Integer.MAX_VALUE), -2);
        due("min", x.restore(Integer.MIN_VALUE), -2);
        due("0", x.restore(0), -5);
        due("1", x.restore(1), -5);
        Check.same("after errors", Check.all(x), before);
        x.save(1);
        due("0 still", x.restore(0), -5);
        due("1", x.restore(1), 3);
    }

    static void promise23RestoreBringsAllBack() {
        LineDoubler x = busy();
        String saved = Check.seen(x);
        String values = Check.values(x);
        x.save(0);
        for (int kind = 0; kind < 6; kind++) {
            change(x, kind);
        }
        Check.type(x, "o8");
        String later = Check.seen(x);
        due("restore", x.restore(0), 1325);
        Check.same("as it was saved", Check.seen(x), saved);
        Check.same("values", Check.values(x), values);
        due("pad", x.count(24), 2);
        due("history", x.count(25), 5);
        due("undo", x.undo(), 4);
        due("as it was later", later.startsWith(Check.counts(x)) ? 1 : 0, 1);
        x.pass(40);
        due("the slot keeps it", x.restore(0), 1325);
        due("as it was saved", saved.startsWith(Check.counts(x)) ? 1 : 0, 1);
        due("the other slot", x.restore(1), 0);
        due("height can change again", x.set(LineDoubler.HEIGHT, 7), 2);
    }
}
