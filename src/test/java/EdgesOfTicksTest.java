/** The sentences of the part "A tick" of the section Terms, at their bounds. */
public final class EdgesOfTicksTest {
    private static final int IN = 0, OUT = 1, ROOM = 2, HEIGHT = 3, DROP = 4, SYNC = 5, COLOUR = 6;

    public static void main(String[] args) throws Exception {
        Check.run(EdgesOfTicksTest.class);
    }

    private static void due(String call, long got, long want) {
        Check.due(call, got, want);
    }

    private static void missing(LineDoubler x, int missing, int picture, int line, int why, int tick) {
        due("picture of the missing " + missing, x.ofMissing(missing, 0), picture);
        due("line of the missing " + missing, x.ofMissing(missing, 1), line);
        due("why of the missing " + missing, x.ofMissing(missing, 2), why);
        due("tick of the missing " + missing, x.ofMissing(missing, 3), tick);
    }

    private static void row(LineDoubler x, int row, int picture, int line) {
        due("picture of the row " + row, x.row(row, 1), picture);
        due("line of the row " + row, x.row(row, 2), line);
    }

    @Sentence("Time is told in ticks; the tick of now is 0 at first.")
    static void termsTheTickOfNowIs0AtFirst() {
        LineDoubler x = new LineDoubler();
        due("at first", x.count(0), 0);
        due("a tick later", x.pass(1), 1);
    }

    @Sentence("There is a tick at which the next line comes, and one at which the next row goes out (both 0 at first).")
    static void termsBothTicksAre0AtFirst() {
        LineDoubler x = new LineDoubler();
        due("the next line", x.count(10), 0);
        due("the next row", x.count(11), 0);
        x.pass(1);
        due("a line came", x.count(1), 1);
        due("a row went out", x.count(5), 1);
        due("the next line", x.count(10), 10);
        due("the next row", x.count(11), 5);
    }

    // ---- 1. a line comes

    @Sentence("When a tick passes: 1. If the next line comes in it: the line (0 of the picture 0 at first) comes.")
    static void termsALineComesInItsTick() {
        LineDoubler x = new LineDoubler();
        x.slip(1, 99);
        x.slip(0, 3);
        x.pass(3);
        due("not ahead of it", x.count(1), 0);
        x.pass(1);
        due("in it", x.count(1), 1);
        due("the picture 0", x.waiting(0, 0), 0);
        due("the line 0", x.waiting(0, 1), 0);
        x.pass(9);
        due("not ahead of the next one", x.count(1), 1);
        x.pass(1);
        due("in the next one", x.count(1), 2);
    }

    @Sentence("If fewer than ROOM lines wait, it waits behind them.")
    static void termsOneFewerThanRoomWait() {
        for (int drop = 0; drop < 2; drop++) {
            for (int room = 1; room <= 16; room++) {
                LineDoubler x = Scenes.filled(room, room - 1, drop);
                x.pass(1);
                due("it waits", x.count(2), room);
                due("behind them", x.waiting(room - 1, 1), room - 1);
                due("none is missing", x.count(4), 0);
            }
        }
    }

    @Sentence("(if there is none such, and with DROP as 0, the line that comes is missing itself).")
    static void termsAsManyAsRoomWaitAndDropIs0() {
        for (int room = 1; room <= 16; room++) {
            LineDoubler x = Scenes.filled(room, room, 0);
            x.pass(1);
            due("no more wait", x.count(2), room);
            due("one is missing", x.count(4), 1);
            missing(x, 0, room / 16, room % 16, 0, 2 * room);
            due("the first one is the same", x.waiting(0, 1), 0);
            due("the last one, too", x.waiting(room - 1, 1), room - 1);
            due("it came", x.count(1), room + 1);
        }
    }

    @Sentence("Otherwise, with DROP as 1, the first waiting line that has not gone out yet is dropped, and this one waits "
            + "behind the others")
    static void termsAsManyAsRoomWaitAndDropIs1() {
        for (int room = 1; room <= 16; room++) {
            LineDoubler x = Scenes.filled(room, room, 1);
            x.pass(1);
            due("no more wait", x.count(2), room);
            due("one is missing", x.count(4), 1);
            missing(x, 0, 0, 0, 1, 2 * room);
            due("the last one, picture", x.waiting(room - 1, 0), room / 16);
            due("the last one, line", x.waiting(room - 1, 1), room % 16);
            for (int place = 0; place < room - 1; place++) {
                due("the others", x.waiting(place, 1), place + 1);
            }
        }
    }

    @Sentence("the first waiting line that has not gone out yet is dropped, and this one waits behind the others")
    static void termsTheLineThatHasGoneOutOnceIsNotDropped() {
        for (int room = 2; room <= 16; room++) {
            LineDoubler x = Scenes.filledOnceOut(room, room, 1);
            x.pass(1);
            due("one is missing", x.count(4), 1);
            missing(x, 0, 0, 1, 1, 2 * room);
            due("the first one stays", x.waiting(0, 1), 0);
            due("it has gone out once", x.waiting(0, 3), 1);
            due("the last one, picture", x.waiting(room - 1, 0), room / 16);
            due("the last one, line", x.waiting(room - 1, 1), room % 16);
            due("it has not gone out", x.waiting(room - 1, 3), 0);
        }
    }

    @Sentence("(if there is none such, and with DROP as 0, the line that comes is missing itself).")
    static void termsNoneThatHasNotGoneOutYet() {
        for (int drop = 0; drop < 2; drop++) {
            LineDoubler x = Scenes.filledOnceOut(1, 1, drop);
            due("the only one is out once", x.waiting(0, 3), 1);
            x.pass(1);
            due("one is missing", x.count(4), 1);
            missing(x, 0, 0, 1, 0, 2);
            due("the only one stays", x.waiting(0, 1), 0);
            due("out once", x.waiting(0, 3), 1);
        }
    }

    @Sentence("with DROP as 0, the line that comes is missing itself).")
    static void termsDropAs0SparesAlsoTheLinesThatHaveNotGoneOut() {
        LineDoubler x = Scenes.filledOnceOut(3, 3, 0);
        x.pass(1);
        missing(x, 0, 0, 3, 0, 6);
        due("all stay", x.waiting(1, 1), 1);
        due("all stay", x.waiting(2, 1), 2);
    }

    @Sentence("The next line is the one with the next number, behind the last one the line 0 of the next picture;")
    static void termsBehindTheLastLineComesTheNextPicture() {
        for (int height : new int[] {2, 5, 16}) {
            LineDoubler x = new LineDoubler();
            x.set(HEIGHT, height);
            x.set(IN, 2);
            for (int came = 0; came <= 2 * height; came++) {
                due("next line", x.count(8), came % height);
                due("its picture", x.count(9), came / height);
                x.pass(2);
            }
        }
    }

    @Sentence("The next line is the one with the next number, behind the last one the line 0 of the next picture;")
    static void termsTheNextLineIsTheNextOneAlsoBehindAMissingOne() {
        for (int drop = 0; drop < 2; drop++) {
            LineDoubler x = Scenes.filled(1, 1, drop);
            x.pass(4);
            due("missing", x.count(4), 2);
            due("next line", x.count(8), 3);
            x.pass(26);
            due("next line", x.count(8), 0);
            due("its picture", x.count(9), 1);
        }
    }

    @Sentence("it comes IN ticks later.")
    static void termsItComesInTicksLater() {
        for (int in : new int[] {2, 10, 99}) {
            LineDoubler x = new LineDoubler();
            x.set(IN, in);
            x.pass(1);
            due("the next line", x.count(10), in);
            x.pass(in - 1);
            due("not yet", x.count(1), 1);
            x.pass(1);
            due("now", x.count(1), 2);
            due("the next line", x.count(10), 2 * in);
        }
    }

    @Sentence("it comes IN ticks later.")
    static void termsInCountsAsItIsWhenTheLineComes() {
        LineDoubler x = new LineDoubler();
        x.pass(10);
        x.set(IN, 7);
        due("it stays", x.count(10), 10);
        x.pass(1);
        due("from now on", x.count(10), 17);
        x.set(IN, 50);
        due("it stays", x.count(10), 17);
    }

    // ---- 2. a row goes out

    @Sentence("2. If the next row goes out in it:")
    static void termsTheLineComesAheadOfTheRowOfTheSameTick() {
        LineDoubler x = new LineDoubler();
        x.pass(1);
        due("no row is empty", x.count(6), 0);
        row(x, 0, 0, 0);
        x = new LineDoubler();
        x.slip(0, 1);
        x.pass(2);
        due("the row is empty a tick ahead of the line", x.count(6), 1);
    }

    @Sentence("2. If the next row goes out in it:")
    static void termsTheLineComesAheadOfTheRowThatWouldMakeRoom() {
        LineDoubler x = new LineDoubler();
        x.set(ROOM, 1);
        x.set(IN, 5);
        x.pass(6);
        // At the tick 5 the line 1 comes, and the line 0 goes out for the second time.
        missing(x, 0, 0, 1, 0, 5);
        due("none waits then", x.count(2), 0);
    }

    @Sentence("with SYNC as 1, ahead of the row 0, waiting lines are skipped from the first one on, until one is the first "
            + "that is a line 0 and has not gone out yet,")
    static void termsSyncSkipsNothingIfALine0IsTheFirst() {
        LineDoubler x = Scenes.quick(6, 1);
        x.pass(7);
        due("missing", x.count(4), 0);
        row(x, 0, 0, 0);
        due("four wait", x.count(2), 4);
    }

    @Sentence("waiting lines are skipped from the first one on, until one is the first that is a line 0 and has not gone out "
            + "yet,")
    static void termsSyncSkipsUpToALine0() {
        LineDoubler x = Scenes.quick(6, 1);
        x.pass(1);
        x.flush();
        x.pass(6);
        // The line 1 of the picture 0, and both lines of the picture 1 waited.
        due("missing", x.count(4), 2);
        missing(x, 0, 0, 1, 2, 6);
        row(x, 0, 1, 0);
        due("two wait", x.count(2), 2);
        due("it has gone out once", x.waiting(0, 3), 1);
    }

    @Sentence("until one is the first that is a line 0 and has not gone out yet,")
    static void termsSyncSkipsALine0ThatHasGoneOutOnce() {
        LineDoubler x = Scenes.quick(0, 1);
        x.set(OUT, 1);
        x.slip(0, 3);
        x.pass(4);
        due("the line 0 went out in the row 3", x.waiting(0, 3), 1);
        x.slip(1, 5);
        x.pass(6);
        // The lines 0 and 1 of the pictures 0 and 1 waited at the tick 9.
        due("missing", x.count(4), 2);
        missing(x, 1, 0, 0, 2, 9);
        missing(x, 0, 0, 1, 2, 9);
        row(x, 0, 1, 0);
        due("two wait", x.count(2), 2);
    }

    @Sentence("or none waits.")
    static void termsSyncSkipsAllIfNoneIsALine0() {
        LineDoubler x = Scenes.quick(6, 1);
        x.pass(1);
        x.flush();
        x.set(IN, 99);
        x.pass(6);
        due("missing", x.count(4), 2);
        missing(x, 0, 0, 1, 2, 6);
        due("none waits", x.count(2), 0);
        due("the row is empty", x.count(6), 1);
        row(x, 0, -6, -6);
    }

    @Sentence("or none waits.")
    static void termsSyncSkipsAllOf15Lines() {
        LineDoubler x = Scenes.filled(16, 16, 0);
        x.set(SYNC, 1);
        x.flush();
        x.set(IN, 4);
        x.pass(1);
        x.flush();
        // The lines 1 to 15 of the picture 1 come at the ticks 36, 40, .. 92; the next one only behind the row 0.
        x.pass(60);
        x.slip(0, 9);
        x.pass(6);
        due("15 wait", x.count(2), 15);
        due("missing", x.count(4), 17);
        x.pass(1);
        due("missing", x.count(4), 32);
        due("none waits", x.count(2), 0);
        for (int missing = 0; missing < 8; missing++) {
            missing(x, missing, 1, 15 - missing, 2, 99);
        }
        row(x, 0, -6, -6);
    }

    @Sentence("or none waits.")
    static void termsSyncWithAnEmptyBuffer() {
        LineDoubler x = Scenes.quick(0, 1);
        x.slip(0, 5);
        x.pass(1);
        due("none is missing", x.count(4), 0);
        due("the row is empty", x.count(6), 1);
    }

    @Sentence("or none waits.")
    static void termsSyncSkipsNoMoreThanWaited() {
        for (int lines = 0; lines < 2; lines++) {
            LineDoubler x = Scenes.filled(16, 16, 0);
            x.set(SYNC, 1);
            // The lines 0 and 1 of the picture 1 have no room; the line 2 waits alone, or none does, ahead of the row 0.
            x.pass(3);
            due("no room for two", x.count(4), 2);
            x.flush();
            if (lines == 1) {
                x.pass(2);
            }
            x.slip(0, 99);
            x.pass(99 - x.count(0));
            due("so many wait", x.count(2), lines);
            x.pass(1);
            due("missing", x.count(4), 18 + lines);
            due("none waits", x.count(2), 0);
            due("empty", x.count(6), 1);
        }
    }

    @Sentence("with SYNC as 1, ahead of the row 0, waiting lines are skipped")
    static void termsSyncAs0SkipsNothing() {
        LineDoubler x = Scenes.quick(6, 0);
        x.pass(1);
        x.flush();
        x.pass(6);
        due("missing", x.count(4), 1);
        row(x, 0, 0, 1);
    }

    @Sentence("with SYNC as 1, ahead of the row 0, waiting lines are skipped")
    static void termsSyncSkipsNothingAheadOfTheOtherRows() {
        for (int row = 1; row < 4; row++) {
            LineDoubler x = Scenes.quick(0, 0);
            x.set(OUT, 1);
            x.slip(0, row + 1);
            x.pass(row);
            due("next row", x.count(7), row);
            x.slip(1, 5);
            x.pass(2);
            x.flush();
            x.set(SYNC, 1);
            x.pass(4);
            // A line 1, and a line 0 behind it, wait when the row goes out at the tick row + 5.
            due("missing", x.count(4), 1);
            row(x, row, 0, 1);
        }
    }

    @Sentence("with SYNC as 1, ahead of the row 0, waiting lines are skipped")
    static void termsSyncSeesTheLine0ThatComesInTheSameTick() {
        LineDoubler x = Scenes.quick(4, 1);
        x.pass(1);
        x.flush();
        x.pass(4);
        missing(x, 0, 0, 1, 2, 4);
        row(x, 0, 1, 0);
        due("it waits", x.count(2), 1);
    }

    @Sentence("Then, if a line waits, the first one goes out in this row (once; if it is for the second time, it does not wait "
            + "any more);")
    static void termsALineGoesOutTwice() {
        LineDoubler x = new LineDoubler();
        x.pass(5);
        due("once", x.waiting(0, 3), 1);
        due("none out twice", x.count(3), 0);
        x.pass(1);
        due("it does not wait any more", x.count(2), 0);
        due("out twice", x.count(3), 1);
        due("it is not missing", x.count(4), 0);
        row(x, 0, 0, 0);
        row(x, 1, 0, 0);
    }

    @Sentence("otherwise the row has the colour, and is empty.")
    static void termsARowIsEmptyIfNoLineWaits() {
        LineDoubler x = new LineDoubler();
        x.set(COLOUR, 9);
        x.slip(0, 6);
        x.pass(6);
        due("two empty rows", x.count(6), 2);
        due("the colour", x.row(1, 0), 9);
        row(x, 1, -6, -6);
        x.pass(5);
        due("not any more", x.count(6), 2);
        due("the line", x.row(2, 0), 0);
        row(x, 2, 0, 0);
        due("rows", x.count(5), 3);
    }

    @Sentence("otherwise the row has the colour, and is empty.")
    static void termsARowIsEmptyBehindTheSecondTimeOfTheOnlyLine() {
        LineDoubler x = new LineDoubler();
        x.set(OUT, 1);
        x.pass(2);
        due("none is empty", x.count(6), 0);
        x.pass(1);
        due("one is empty", x.count(6), 1);
        row(x, 2, -6, -6);
    }

    @Sentence("A screen has 2 * HEIGHT rows, from 0 on; behind the last one comes the row 0 of the next screen.")
    static void termsAScreenHasTwiceHeightRows() {
        for (int height : new int[] {2, 3, 16}) {
            LineDoubler x = new LineDoubler();
            x.set(HEIGHT, height);
            x.set(OUT, 1);
            for (int rows = 0; rows <= 4 * height; rows++) {
                due("next row", x.count(7), rows % (2 * height));
                due("screens", x.count(12) + x.count(13) + x.count(14), rows / (2 * height));
                x.pass(1);
            }
            due("no such row", x.row(2 * height, 0), -1);
        }
    }

    @Sentence("The next row goes out OUT ticks later.")
    static void termsTheNextRowGoesOutOutTicksLater() {
        for (int out : new int[] {1, 5, 99}) {
            LineDoubler x = new LineDoubler();
            x.set(OUT, out);
            x.pass(1);
            due("the next row", x.count(11), out);
            if (out > 1) {
                x.pass(out - 1);
                due("not yet", x.count(5), 1);
            }
            x.pass(1);
            due("now", x.count(5), 2);
            due("the next row", x.count(11), 2 * out);
        }
    }

    @Sentence("The next row goes out OUT ticks later.")
    static void termsOutCountsAsItIsWhenTheRowGoesOut() {
        LineDoubler x = new LineDoubler();
        x.pass(5);
        x.set(OUT, 3);
        due("it stays", x.count(11), 5);
        x.pass(1);
        due("from now on", x.count(11), 8);
        x.set(OUT, 50);
        due("it stays", x.count(11), 8);
    }

    @Sentence("Then the tick of now is one more.")
    static void termsTheTickOfNowIsOneMore() {
        LineDoubler x = new LineDoubler();
        for (int tick = 0; tick < 25; tick++) {
            due("now", x.count(0), tick);
            due("then", x.pass(1), tick + 1);
        }
    }

    @Sentence("A line that is dropped or skipped, or for which there was no room, is missing")
    static void termsTheThreeKindsOfMissingLines() {
        LineDoubler x = Scenes.filled(2, 2, 0);
        x.pass(1);
        due("no room", x.count(4), 1);
        x.set(DROP, 1);
        x.pass(2);
        due("dropped", x.count(4), 2);
        x.flush();
        due("skipped", x.count(4), 4);
        missing(x, 3, 0, 2, 0, 4);
        missing(x, 2, 0, 0, 1, 6);
        missing(x, 1, 0, 1, 2, 7);
        missing(x, 0, 0, 3, 2, 7);
    }

    @Sentence("(also if it had gone out once).")
    static void termsALineThatWentOutOnceIsMissingIfItIsSkipped() {
        LineDoubler x = new LineDoubler();
        x.pass(1);
        due("out once", x.waiting(0, 3), 1);
        due("flush", x.flush(), 1);
        due("missing", x.count(4), 1);
        due("not out twice", x.count(3), 0);
        missing(x, 0, 0, 0, 2, 1);
    }

    // ---- how a screen was

    /** Pictures of 2 lines, each of them twice: the rows 0 to 3 go out at the ticks 0, 5, 10 and 15. */
    private static LineDoubler regular() {
        LineDoubler x = new LineDoubler();
        x.set(HEIGHT, 2);
        return x;
    }

    private static void screens(LineDoubler x, int clean, int torn, int blanked, int latest) {
        due("CLEAN", x.count(12), clean);
        due("TORN", x.count(13), torn);
        due("BLANKED", x.count(14), blanked);
        due("the latest", x.count(15), latest);
    }

    @Sentence("When the last row of a screen has gone out, the screen was:")
    static void termsAScreenIsJudgedBehindItsLastRow() {
        LineDoubler x = regular();
        x.pass(15);
        due("next row", x.count(7), 3);
        screens(x, 0, 0, 0, -6);
        x.pass(1);
        due("next row", x.count(7), 0);
        screens(x, 1, 0, 0, 0);
        x.pass(19);
        screens(x, 1, 0, 0, 0);
        x.pass(1);
        screens(x, 2, 0, 0, 0);
    }

    @Sentence("BLANKED (2) if some of its rows was empty;")
    static void termsBlankedByTheRow0Alone() {
        LineDoubler x = regular();
        x.slip(0, 3);
        x.pass(16);
        due("empty", x.count(6), 1);
        row(x, 0, -6, -6);
        screens(x, 0, 0, 1, 2);
    }

    @Sentence("BLANKED (2) if some of its rows was empty;")
    static void termsBlankedByTheLastRowAlone() {
        LineDoubler x = regular();
        x.pass(11);
        due("flush", x.flush(), 1);
        x.pass(5);
        due("empty", x.count(6), 1);
        row(x, 3, -6, -6);
        screens(x, 0, 0, 1, 2);
    }

    @Sentence("BLANKED (2) if some of its rows was empty;")
    static void termsBlankedByARowBetweenAlone() {
        LineDoubler x = regular();
        x.pass(1);
        due("flush", x.flush(), 1);
        x.pass(15);
        due("empty", x.count(6), 1);
        row(x, 1, -6, -6);
        screens(x, 0, 0, 1, 2);
    }

    @Sentence("BLANKED (2) if some of its rows was empty;")
    static void termsBlankedByAllRows() {
        LineDoubler x = regular();
        x.slip(0, 99);
        x.pass(16);
        due("empty", x.count(6), 4);
        screens(x, 0, 0, 1, 2);
    }

    @Sentence("BLANKED (2) if some of its rows was empty;")
    static void termsBlankedThoughItsRowsAreOfTwoPictures() {
        LineDoubler x = regular();
        x.pass(1);
        x.flush();
        x.slip(1, 15);
        x.pass(26);
        // The rows 0, 1 and 2 showed the line 0, and twice the line 1; the line 0 of the picture 1 waits.
        x.slip(1, 1);
        x.pass(5);
        row(x, 3, 1, 0);
        screens(x, 0, 1, 0, 1);
        x.undo();
        x.flush();
        x.slip(0, 9);
        x.pass(5);
        row(x, 3, -6, -6);
        screens(x, 0, 0, 1, 2);
    }

    @Sentence("BLANKED (2) if some of its rows was empty;")
    static void termsNotBlankedByTheRowsOfTheScreenBefore() {
        LineDoubler x = regular();
        x.slip(0, 3);
        x.pass(16);
        screens(x, 0, 0, 1, 2);
        x.flush();
        x.slip(0, 7);
        // The picture 1 comes whole from the tick 30 on; so the next screen begins there, too.
        x.slip(1, 10);
        x.pass(30);
        due("no row more is empty", x.count(6), 1);
        screens(x, 1, 0, 1, 0);
    }

    @Sentence("otherwise CLEAN (0) if all its rows are of one picture, and the row r has its line r / 2 (rounded down);")
    static void termsCleanIfEachRowHasItsLine() {
        for (int height : new int[] {2, 3, 16}) {
            LineDoubler x = new LineDoubler();
            x.set(HEIGHT, height);
            x.pass(10 * height - 4);
            screens(x, 1, 0, 0, 0);
            for (int row = 0; row < 2 * height; row++) {
                row(x, row, 0, row / 2);
            }
        }
    }

    @Sentence("otherwise CLEAN (0) if all its rows are of one picture,")
    static void termsCleanAlsoIfAPictureWasMissingAheadOfIt() {
        LineDoubler x = regular();
        x.slip(1, 20);
        x.pass(20);
        due("flush", x.flush(), 2);
        x.pass(16);
        screens(x, 1, 0, 0, 0);
        row(x, 3, 1, 1);
    }

    @Sentence("otherwise TORN (1).")
    static void termsTornByTheLastRowAlone() {
        LineDoubler x = regular();
        x.pass(11);
        x.flush();
        x.slip(1, 5);
        x.pass(10);
        row(x, 2, 0, 1);
        row(x, 3, 1, 0);
        screens(x, 0, 1, 0, 1);
    }

    @Sentence("otherwise TORN (1).")
    static void termsTornByTheRow0Alone() {
        LineDoubler x = regular();
        x.pass(1);
        x.flush();
        x.slip(1, 15);
        x.pass(10);
        due("the line 1 of the picture 0", x.flush(), 1);
        x.pass(10);
        due("the line 0 of the picture 1, behind the row 1", x.flush(), 1);
        x.slip(1, 5);
        x.pass(15);
        row(x, 0, 0, 0);
        row(x, 1, 1, 0);
        row(x, 2, 1, 1);
        row(x, 3, 1, 1);
        screens(x, 0, 1, 0, 1);
    }

    @Sentence("otherwise TORN (1).")
    static void termsTornThoughEachRowHasItsLine() {
        LineDoubler x = regular();
        x.pass(6);
        x.slip(1, 25);
        x.pass(20);
        due("the line 1 of the picture 0, and the line 0 of the picture 1", x.flush(), 2);
        x.pass(15);
        row(x, 0, 0, 0);
        row(x, 1, 0, 0);
        row(x, 2, 1, 1);
        row(x, 3, 1, 1);
        screens(x, 0, 1, 0, 1);
    }

    @Sentence("otherwise TORN (1).")
    static void termsTornIfAScreenBeginsWithALine1() {
        LineDoubler x = regular();
        x.slip(1, 10);
        x.pass(1);
        x.flush();
        x.pass(25);
        row(x, 0, 0, 1);
        row(x, 1, 0, 1);
        row(x, 2, 1, 0);
        row(x, 3, 1, 0);
        screens(x, 0, 1, 0, 1);
    }
}
