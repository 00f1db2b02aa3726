/** Promises 1 to 6: a new object, set, value, slip, pass, flush. */
public final class ChangesTest {
    private static final int[] LEAST = {2, 1, 1, 2, 0, 0, 0, 0};
    private static final int[] MOST = {99, 99, 16, 16, 1, 1, 255, 255};
    private static final int[] FIRST = {10, 5, 4, 4, 0, 0, 255, 0};

    public static void main(String[] args) throws Exception {
        Check.run(ChangesTest.class);
    }

    private static void due(String call, long got, long want) {
        Check.due(call, got, want);
    }

    /** A line waits in each place: ROOM is 4, no row has gone out yet, and none will before the tick 99. */
    private static LineDoubler full() {
        LineDoubler x = new LineDoubler();
        x.slip(1, 99);
        x.set(LineDoubler.IN, 2);
        x.pass(7);
        return x;
    }

    static void promise01NewObject() {
        LineDoubler x = new LineDoubler();
        for (int what = 0; what < 26; what++) {
            int want = what == 15 ? -6 : what >= 16 && what < 24 ? FIRST[what - 16] : 0;
            due("count(" + what + ")", x.count(what), want);
        }
        due("waiting", x.waiting(0, 0), -1);
        due("ofMissing", x.ofMissing(0, 0), -1);
        for (int row = 0; row < 8; row++) {
            for (int what = 0; what < 3; what++) {
                due("row", x.row(row, what), -6);
            }
        }
        due("row(8)", x.row(8, 0), -1);
        due("shown", x.shown(), 0);
        due("fill", x.fill(), 0);
        due("ratio", x.ratio(), Float.floatToIntBits(1f));
        due("fault", x.fault(), 0);
        due("undo", x.undo(), -5);
        due("restore(0)", x.restore(0), -5);
        due("restore(1)", x.restore(1), -5);
        for (int line = 0; line < 16; line++) {
            due("value " + line, x.value(line, 255 - line), 10 * line);
        }
    }

    static void promise02SetTakesItsRange() {
        for (int setting = 0; setting < 8; setting++) {
            LineDoubler x = new LineDoubler();
            due("below " + setting, x.set(setting, LEAST[setting] - 1), -2);
            due("above " + setting, x.set(setting, MOST[setting] + 1), -2);
            due("far below", x.set(setting, Integer.MIN_VALUE), -2);
            due("far above", x.set(setting, Integer.MAX_VALUE), -2);
            due("unchanged", x.count(16 + setting), FIRST[setting]);
            due("no history", x.count(25), 0);
            due("least " + setting, x.set(setting, LEAST[setting]), FIRST[setting]);
            due("is least", x.count(16 + setting), LEAST[setting]);
            due("most " + setting, x.set(setting, MOST[setting]), LEAST[setting]);
            due("is most", x.count(16 + setting), MOST[setting]);
            due("again", x.set(setting, MOST[setting]), MOST[setting]);
            due("history", x.count(25), 3);
        }
    }

    static void promise02SetRefusesOtherSettings() {
        LineDoubler x = new LineDoubler();
        String before = Check.all(x);
        due("set(8)", x.set(8, 1), -2);
        due("set(-1)", x.set(-1, 1), -2);
        due("set(max)", x.set(Integer.MAX_VALUE, 5), -2);
        due("set(min)", x.set(Integer.MIN_VALUE, 5), -2);
        Check.same("after errors", Check.all(x), before);
    }

    static void promise02HeightOnlyAtTickZero() {
        LineDoubler x = new LineDoubler();
        due("slip", x.slip(0, 3), 3);
        due("at 0", x.set(LineDoubler.HEIGHT, 16), 4);
        due("at 0 again", x.set(LineDoubler.HEIGHT, 2), 16);
        due("pass", x.pass(1), 1);
        String before = Check.all(x);
        due("at 1", x.set(LineDoubler.HEIGHT, 3), -5);
        due("at 1, not another one", x.set(LineDoubler.HEIGHT, 2), -5);
        due("out of range first", x.set(LineDoubler.HEIGHT, 1), -2);
        due("out of range first", x.set(LineDoubler.HEIGHT, 17), -2);
        Check.same("after errors", Check.all(x), before);
        due("undo", x.undo(), 3);
        due("at 0 once more", x.set(LineDoubler.HEIGHT, 5), 2);
    }

    static void promise02RoomNotBelowTheWaiting() {
        LineDoubler x = full();
        due("waiting", x.count(2), 4);
        String before = Check.all(x);
        due("3", x.set(LineDoubler.ROOM, 3), -5);
        due("1", x.set(LineDoubler.ROOM, 1), -5);
        due("0", x.set(LineDoubler.ROOM, 0), -2);
        due("17", x.set(LineDoubler.ROOM, 17), -2);
        Check.same("after errors", Check.all(x), before);
        due("4", x.set(LineDoubler.ROOM, 4), 4);
        due("9", x.set(LineDoubler.ROOM, 9), 4);
        due("5", x.set(LineDoubler.ROOM, 5), 9);
    }

    static void promise02NextTicksStay() {
        LineDoubler x = new LineDoubler();
        x.pass(1);
        due("next line", x.count(10), 10);
        due("next row", x.count(11), 5);
        x.set(LineDoubler.IN, 3);
        x.set(LineDoubler.OUT, 2);
        due("next line stays", x.count(10), 10);
        due("next row stays", x.count(11), 5);
        x.pass(5);
        due("next row then", x.count(11), 7);
        x.pass(5);
        due("next line then", x.count(10), 13);
        due("lines", x.count(1), 2);
    }

    static void promise03ValueRanges() {
        LineDoubler x = new LineDoubler();
        String before = Check.all(x);
        due("line -1", x.value(-1, 0), -1);
        due("line 16", x.value(16, 0), -1);
        due("line min", x.value(Integer.MIN_VALUE, 0), -1);
        due("line max", x.value(Integer.MAX_VALUE, 0), -1);
        due("the line first", x.value(16, 256), -1);
        due("value -1", x.value(0, -1), -2);
        due("value 256", x.value(15, 256), -2);
        due("value max", x.value(3, Integer.MAX_VALUE), -2);
        Check.same("after errors", Check.all(x), before);
        due("line 15", x.value(15, 255), 150);
        due("line 15", x.value(15, 0), 255);
        due("line 15", x.value(15, 0), 0);
        due("line 0", x.value(0, 1), 0);
        due("history", x.count(25), 4);
    }

    static void promise03LinesAreToldAsTheyCome() {
        LineDoubler x = new LineDoubler();
        x.slip(1, 99);
        x.set(LineDoubler.ROOM, 16);
        x.set(LineDoubler.HEIGHT, 2);
        x.set(LineDoubler.IN, 2);
        x.value(0, 200);
        x.set(LineDoubler.SCROLL, 30);
        x.pass(9);
        due("picture 0, line 0", x.waiting(0, 2), 200);
        due("picture 0, line 1", x.waiting(1, 2), 10);
        due("picture 1, line 0", x.waiting(2, 2), 230);
        due("picture 1, line 1", x.waiting(3, 2), 40);
        due("picture 2, line 0", x.waiting(4, 2), (200 + 60) % 256);
        x.value(0, 7);
        x.set(LineDoubler.SCROLL, 255);
        due("it stays", x.waiting(4, 2), 4);
        x.pass(4);
        due("picture 2, line 1", x.waiting(5, 2), (10 + 510) % 256);
        due("picture 3, line 0", x.waiting(6, 2), (7 + 765) % 256);
    }

    static void promise03SeventeenthPictureIsToldRight() {
        LineDoubler x = new LineDoubler();
        x.set(LineDoubler.HEIGHT, 2);
        x.set(LineDoubler.IN, 2);
        x.set(LineDoubler.OUT, 1);
        x.set(LineDoubler.SCROLL, 255);
        for (int i = 0; i < 9; i++) {
            x.pass(999);
        }
        // The line that comes at the tick 8990 is the 4495th: the picture 2247 has its line 1 then.
        due("row 2", x.row(2, 1), 2247);
        due("row 2", x.row(2, 0), (10 + 255 * 2247) % 256);
    }

    static void promise04SlipRanges() {
        LineDoubler x = new LineDoubler();
        String before = Check.all(x);
        int[][] wrong = {{-1, 1}, {2, 1}, {0, 0}, {1, 0}, {0, 100}, {1, 100}, {0, -1}, {Integer.MAX_VALUE, 5},
            {Integer.MIN_VALUE, 5}, {1, Integer.MAX_VALUE}, {0, Integer.MIN_VALUE}, {2, 0}};
        for (int[] call : wrong) {
            due("slip(" + call[0] + ", " + call[1] + ")", x.slip(call[0], call[1]), -2);
        }
        Check.same("after errors", Check.all(x), before);
        due("slip(0, 1)", x.slip(0, 1), 1);
        due("slip(0, 99)", x.slip(0, 99), 100);
        due("slip(1, 99)", x.slip(1, 99), 99);
        due("slip(1, 1)", x.slip(1, 1), 100);
        due("next line", x.count(10), 100);
        due("next row", x.count(11), 100);
        due("history", x.count(25), 4);
    }

    static void promise04SlipMovesOneClock() {
        LineDoubler x = new LineDoubler();
        due("slip", x.slip(0, 3), 3);
        x.pass(3);
        due("lines", x.count(1), 0);
        due("rows", x.count(5), 1);
        due("empty", x.count(6), 1);
        x.pass(1);
        due("lines", x.count(1), 1);
        due("next line", x.count(10), 13);
        due("slip rows", x.slip(1, 4), 9);
        x.pass(5);
        due("rows", x.count(5), 1);
        x.pass(1);
        due("rows", x.count(5), 2);
        due("next row", x.count(11), 14);
    }

    static void promise04SlipBehindTheLastTick() {
        LineDoubler x = new LineDoubler();
        for (int i = 0; i < 100; i++) {
            x.pass(999);
        }
        x.pass(99);
        due("next line", x.count(10), 100000);
        due("slip", x.slip(0, 99), 100099);
    }

    static void promise05PassRanges() {
        LineDoubler x = new LineDoubler();
        String before = Check.all(x);
        int[] wrong = {0, -1, 1000, Integer.MIN_VALUE, Integer.MAX_VALUE};
        for (int ticks : wrong) {
            due("pass(" + ticks + ")", x.pass(ticks), -2);
        }
        Check.same("after errors", Check.all(x), before);
        due("pass(1)", x.pass(1), 1);
        due("pass(999)", x.pass(999), 1000);
        due("history", x.count(25), 2);
    }

    static void promise05PassEndsAtTheLastTick() {
        LineDoubler x = new LineDoubler();
        for (int i = 1; i <= 100; i++) {
            due("pass", x.pass(999), 999 * i);
        }
        String before = Check.all(x);
        due("100 more", x.pass(100), -4);
        due("999 more", x.pass(999), -4);
        due("the range first", x.pass(1000), -2);
        Check.same("after errors", Check.all(x), before);
        due("99 more", x.pass(99), 99999);
        due("1 more", x.pass(1), -4);
        due("the range first", x.pass(0), -2);
        due("lines", x.count(1), 10000);
        due("rows", x.count(5), 20000);
        due("clean", x.count(12), 2500);
    }

    static void promise05TheLineComesAheadOfTheRow() {
        LineDoubler x = new LineDoubler();
        x.pass(1);
        due("came", x.count(1), 1);
        due("rows", x.count(5), 1);
        due("empty", x.count(6), 0);
        due("out once", x.waiting(0, 3), 1);
        x.pass(4);
        due("still there", x.count(2), 1);
        x.pass(1);
        due("out twice", x.count(3), 1);
        due("gone", x.count(2), 0);
    }

    static void promise05NoRoomWithoutDrop() {
        LineDoubler x = full();
        due("none missing", x.count(4), 0);
        x.pass(2);
        due("missing", x.count(4), 1);
        due("picture", x.ofMissing(0, 0), 1);
        due("line", x.ofMissing(0, 1), 0);
        due("no room", x.ofMissing(0, 2), 0);
        due("tick", x.ofMissing(0, 3), 8);
        due("waiting", x.count(2), 4);
        due("the first one", x.waiting(0, 1), 0);
        due("came", x.count(1), 5);
        due("next line", x.count(8), 1);
        due("its picture", x.count(9), 1);
    }

    static void promise05DropTakesTheFirstNotOut() {
        LineDoubler x = full();
        x.set(LineDoubler.DROP, 1);
        x.pass(2);
        due("missing", x.count(4), 1);
        due("picture", x.ofMissing(0, 0), 0);
        due("line", x.ofMissing(0, 1), 0);
        due("dropped", x.ofMissing(0, 2), 1);
        due("tick", x.ofMissing(0, 3), 8);
        due("waiting", x.count(2), 4);
        due("first", x.waiting(0, 1), 1);
        due("last, picture", x.waiting(3, 0), 1);
        due("last, line", x.waiting(3, 1), 0);
        due("twice", x.count(3), 0);
    }

    static void promise05DropSparesTheLineThatWentOutOnce() {
        LineDoubler x = new LineDoubler();
        x.set(LineDoubler.IN, 2);
        x.set(LineDoubler.OUT, 99);
        x.set(LineDoubler.DROP, 1);
        x.pass(9);
        due("out once", x.waiting(0, 3), 1);
        due("first stays", x.waiting(0, 1), 0);
        due("missing picture", x.ofMissing(0, 0), 0);
        due("missing line", x.ofMissing(0, 1), 1);
        due("dropped", x.ofMissing(0, 2), 1);
        due("second", x.waiting(1, 1), 2);
        due("third", x.waiting(2, 1), 3);
        due("fourth, picture", x.waiting(3, 0), 1);
    }

    static void promise05DropWithNoneToDrop() {
        LineDoubler x = new LineDoubler();
        x.set(LineDoubler.ROOM, 1);
        x.set(LineDoubler.IN, 2);
        x.set(LineDoubler.OUT, 9);
        x.set(LineDoubler.DROP, 1);
        x.pass(3);
        due("missing", x.count(4), 1);
        due("itself", x.ofMissing(0, 1), 1);
        due("no room", x.ofMissing(0, 2), 0);
        due("waiting", x.waiting(0, 1), 0);
        x.flush();
        x.pass(2);
        due("waits", x.waiting(0, 1), 2);
        due("not out", x.waiting(0, 3), 0);
        x.pass(2);
        due("dropped", x.ofMissing(0, 2), 1);
        due("line", x.ofMissing(0, 1), 2);
        due("waits", x.waiting(0, 1), 3);
    }

    static void promise05TheMostRoomIsFull() {
        for (int drop = 0; drop < 2; drop++) {
            LineDoubler x = new LineDoubler();
            x.set(LineDoubler.ROOM, 16);
            x.set(LineDoubler.HEIGHT, 16);
            x.set(LineDoubler.IN, 2);
            x.set(LineDoubler.DROP, drop);
            x.slip(1, 99);
            x.pass(31);
            due("waiting", x.count(2), 16);
            due("missing", x.count(4), 0);
            x.pass(2);
            due("waiting", x.count(2), 16);
            due("missing", x.count(4), 1);
            due("picture", x.ofMissing(0, 0), 1 - drop);
            due("line", x.ofMissing(0, 1), 0);
            due("why", x.ofMissing(0, 2), drop);
            due("first", x.waiting(0, 1), drop);
            due("last, picture", x.waiting(15, 0), drop);
            due("last, line", x.waiting(15, 1), 15 - 15 * drop);
        }
    }

    static void promise05SyncSkipsAllIfThereIsNoLineZero() {
        LineDoubler x = new LineDoubler();
        x.slip(1, 30);
        x.pass(1);
        x.flush();
        x.set(LineDoubler.SYNC, 1);
        x.pass(30);
        // The lines 1 to 3 waited at the tick 30.
        due("missing", x.count(4), 4);
        due("none waits", x.count(2), 0);
        due("empty", x.count(6), 1);
        for (int missing = 0; missing < 3; missing++) {
            due("line", x.ofMissing(missing, 1), 3 - missing);
            due("skipped", x.ofMissing(missing, 2), 2);
            due("tick", x.ofMissing(missing, 3), 30);
        }
    }

    static void promise05SyncSkipsToALineZero() {
        LineDoubler x = new LineDoubler();
        x.set(LineDoubler.HEIGHT, 2);
        x.set(LineDoubler.SYNC, 1);
        x.slip(1, 25);
        x.pass(5);
        // The line 0 waits; a flush takes it, so that the line 1 of the picture 0 is the first one at the tick 25.
        due("flush", x.flush(), 1);
        x.pass(21);
        due("missing", x.count(4), 2);
        due("picture", x.ofMissing(0, 0), 0);
        due("line", x.ofMissing(0, 1), 1);
        due("skipped", x.ofMissing(0, 2), 2);
        due("tick", x.ofMissing(0, 3), 25);
        due("row 0", x.row(0, 1), 1);
        due("row 0", x.row(0, 2), 0);
        due("waiting", x.count(2), 1);
    }

    static void promise05SyncSkipsAlsoWhatWentOutOnce() {
        LineDoubler x = new LineDoubler();
        x.set(LineDoubler.HEIGHT, 2);
        x.set(LineDoubler.OUT, 1);
        x.slip(0, 3);
        x.pass(4);
        due("the screen was", x.count(15), 2);
        due("a line 0 went out once", x.waiting(0, 3), 1);
        due("next row", x.count(7), 0);
        x.set(LineDoubler.SYNC, 1);
        x.pass(1);
        due("skipped", x.ofMissing(0, 2), 2);
        due("line", x.ofMissing(0, 1), 0);
        due("missing", x.count(4), 1);
        due("twice", x.count(3), 0);
        due("row 0 is empty", x.row(0, 1), -6);
        due("empty", x.count(6), 4);
    }

    static void promise05SyncOnlyAheadOfRowZero() {
        LineDoubler x = new LineDoubler();
        x.set(LineDoubler.HEIGHT, 2);
        x.set(LineDoubler.SYNC, 1);
        x.pass(11);
        due("row 2 shows line 1", x.row(2, 2), 1);
        due("missing", x.count(4), 0);
        x.pass(89);
        due("clean", x.count(12), 5);
        due("missing", x.count(4), 0);
    }

    static void promise05SkippingKeepsItsOrder() {
        LineDoubler x = full();
        x.set(LineDoubler.SYNC, 1);
        x.set(LineDoubler.ROOM, 16);
        x.pass(92);
        due("tick of now", x.count(0), 99);
        due("missing before", x.count(4), 34);
        x.flush();
        x.slip(0, 1);
        x.slip(1, 6);
        x.pass(7);
        // From the tick 101 on three lines come by the tick 105; the row goes out there.
        due("missing", x.count(4), 34 + 16 + 2);
        due("latest", x.ofMissing(0, 1), 3);
        due("the one before", x.ofMissing(1, 1), 2);
        due("why", x.ofMissing(1, 2), 2);
        due("row 0", x.row(0, 2), 0);
        due("row 0", x.row(0, 1), 13);
    }

    static void promise05ScreensCleanTornBlanked() {
        LineDoubler x = new LineDoubler();
        x.set(LineDoubler.HEIGHT, 2);
        x.pass(15);
        due("none yet", x.count(15), -6);
        x.pass(1);
        due("clean", x.count(15), 0);
        due("clean", x.count(12), 1);
        due("next row", x.count(7), 0);
        x.set(LineDoubler.OUT, 1);
        x.pass(8);
        // From the tick 20 on a row a tick: twice the line 0, then two empty ones.
        due("blanked", x.count(15), 2);
        due("blanked", x.count(14), 1);
        due("empty", x.count(6), 2);
        x.flush();
        due("slip", x.slip(1, 46), 70);
        x.pass(50);
        // The line 1 of the picture 1 comes at 30, and is the first that the next screen shows.
        due("torn", x.count(15), 1);
        due("torn", x.count(13), 1);
        due("rows 0 and 1", x.row(0, 1), 1);
        due("rows 0 and 1", x.row(1, 2), 1);
        due("rows 2 and 3", x.row(2, 1), 2);
    }

    static void promise05BlankedByTheFirstRowAlone() {
        LineDoubler x = new LineDoubler();
        x.set(LineDoubler.HEIGHT, 2);
        x.slip(0, 3);
        x.pass(16);
        // Rows at 0 (empty), 5, 10 and 15; lines at 3 and 13.
        due("empty", x.count(6), 1);
        due("blanked", x.count(15), 2);
        due("blanked", x.count(14), 1);
        due("torn", x.count(13), 0);
    }

    static void promise05TornThoughTheLinesAreRight() {
        LineDoubler x = new LineDoubler();
        x.set(LineDoubler.HEIGHT, 2);
        x.pass(6);
        due("slip", x.slip(1, 25), 35);
        x.pass(20);
        // The line 1 of the picture 0 and the line 0 of the picture 1 wait, and are flushed.
        due("flush", x.flush(), 2);
        x.pass(15);
        due("row 0", x.row(0, 1), 0);
        due("row 1", x.row(1, 2), 0);
        due("row 2", x.row(2, 1), 1);
        due("row 3", x.row(3, 2), 1);
        due("empty", x.count(6), 0);
        due("torn", x.count(15), 1);
        due("torn", x.count(13), 1);
        due("clean", x.count(12), 0);
    }

    static void promise05RowsShowTheColourOfTheirTime() {
        LineDoubler x = new LineDoubler();
        x.slip(0, 99);
        x.set(LineDoubler.COLOUR, 17);
        x.pass(1);
        x.set(LineDoubler.COLOUR, 18);
        x.pass(5);
        due("row 0", x.row(0, 0), 17);
        due("row 1", x.row(1, 0), 18);
        due("row 2", x.row(2, 0), -6);
    }

    static void promise06Flush() {
        LineDoubler x = new LineDoubler();
        due("none", x.flush(), 0);
        due("history", x.count(25), 1);
        x = full();
        due("four", x.flush(), 4);
        due("waiting", x.count(2), 0);
        due("missing", x.count(4), 4);
        due("twice", x.count(3), 0);
        for (int missing = 0; missing < 4; missing++) {
            due("picture", x.ofMissing(missing, 0), 0);
            due("line", x.ofMissing(missing, 1), 3 - missing);
            due("skipped", x.ofMissing(missing, 2), 2);
            due("tick", x.ofMissing(missing, 3), 7);
        }
        due("again", x.flush(), 0);
        due("missing", x.count(4), 4);
        x.pass(2);
        due("the next one waits", x.waiting(0, 0), 1);
    }

    static void promise06FlushTakesWhatWentOutOnce() {
        LineDoubler x = new LineDoubler();
        x.pass(1);
        due("flush", x.flush(), 1);
        due("missing", x.count(4), 1);
        due("twice", x.count(3), 0);
        due("tick", x.ofMissing(0, 3), 1);
        due("the row stays", x.row(0, 1), 0);
    }
}
