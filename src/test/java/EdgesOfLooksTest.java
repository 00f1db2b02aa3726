/** The sentences of the promises 7 to 13 at their bounds: waiting, row, ofMissing, count, shown, ratio, fill. */
public final class EdgesOfLooksTest {
    private static final int IN = 0, OUT = 1, ROOM = 2, HEIGHT = 3, DROP = 4, COLOUR = 6, SCROLL = 7;
    private static final int LOW = Integer.MIN_VALUE, HIGH = Integer.MAX_VALUE;

    public static void main(String[] args) throws Exception {
        Check.run(EdgesOfLooksTest.class);
    }

    private static void due(String call, long got, long want) {
        Check.due(call, got, want);
    }

    /** Pictures of 2 lines, each of them twice, without any empty row. */
    private static LineDoubler regular() {
        LineDoubler x = new LineDoubler();
        x.set(HEIGHT, 2);
        return x;
    }

    // ---- promise 7: waiting

    @Sentence("Returns something about a waiting line.")
    static void promise07OnlyTells() {
        Twins.onlyTells("waiting", Scenes::busy, x -> x.waiting(0, 0) + x.waiting(1, 3));
    }

    @Sentence("`place`: 0 for the first one")
    static void promise07PlacesBeginWith0() {
        for (int lines : new int[] {1, 2, 15, 16}) {
            LineDoubler x = Scenes.filled(16, lines, 0);
            due("place -1", x.waiting(-1, 1), -1);
            due("the first one", x.waiting(0, 1), 0);
            due("the last one", x.waiting(lines - 1, 1), lines - 1);
            due("behind it", x.waiting(lines, 1), -1);
        }
    }

    @Sentence("`what`: 0 its picture, 1 its line, 2 what it is told with, 3 how often it has gone out")
    static void promise07WhatIs0To3() {
        LineDoubler x = Scenes.quick(0, 0);
        x.set(OUT, 3);
        x.set(SCROLL, 100);
        x.pass(13);
        // Lines came at 0, 2, .. 12, rows went out at 0, 3, 6, 9 and 12: the first one waiting is the line 0 of picture 1.
        int[][] want = {{1, 0, 100, 1}, {1, 1, 110, 0}, {2, 0, 200, 0}, {2, 1, 210, 0}, {3, 0, 44, 0}};
        due("five wait", x.count(2), 5);
        for (int place = 0; place < 5; place++) {
            for (int what = 0; what < 4; what++) {
                due("waiting(" + place + ", " + what + ")", x.waiting(place, what), want[place][what]);
            }
        }
    }

    @Sentence("Returns the number; NO_SUCH if there is no such line;")
    static void promise07NoSuchLine() {
        LineDoubler x = new LineDoubler();
        due("none waits", x.waiting(0, 0), -1);
        x.pass(1);
        due("one waits", x.waiting(0, 0), 0);
        due("no second one", x.waiting(1, 0), -1);
        due("low", x.waiting(LOW, 0), -1);
        due("high", x.waiting(HIGH, 0), -1);
        x.flush();
        due("none waits any more", x.waiting(0, 0), -1);
    }

    @Sentence("BAD_VALUE if what is out of range.")
    static void promise07WhatOutOfRange() {
        LineDoubler x = Scenes.filled(2, 2, 0);
        for (int place = 0; place < 2; place++) {
            due("-1", x.waiting(place, -1), -2);
            due("0", x.waiting(place, 0), 0);
            due("3", x.waiting(place, 3), 0);
            due("4", x.waiting(place, 4), -2);
            due("low", x.waiting(place, LOW), -2);
            due("high", x.waiting(place, HIGH), -2);
        }
    }

    // ---- promise 8: row

    @Sentence("Returns something about a row of the screen, as it went out last.")
    static void promise08AsItWentOutLast() {
        LineDoubler x = regular();
        x.pass(20);
        due("the row 0 of the first screen", x.row(0, 1), 0);
        x.pass(1);
        due("the row 0 of the second screen", x.row(0, 1), 1);
        due("the row 1 of the first screen still", x.row(1, 1), 0);
        due("the row 3 of the first screen still", x.row(3, 2), 1);
        x.slip(0, 99);
        x.pass(15);
        due("the row 0", x.row(0, 1), 1);
        due("the row 1", x.row(1, 1), 1);
        for (int row = 2; row < 4; row++) {
            due("the row " + row + ", empty now", x.row(row, 0), 255);
            due("it has no picture any more", x.row(row, 1), -6);
            due("and no line", x.row(row, 2), -6);
        }
        Twins.onlyTells("row", Scenes::busy, y -> y.row(0, 0) + y.row(3, 2));
    }

    @Sentence("as it went out last.")
    static void promise08NotAsItWouldGoOutNow() {
        LineDoubler x = regular();
        x.pass(16);
        x.value(0, 99);
        x.value(1, 99);
        x.set(SCROLL, 9);
        x.set(COLOUR, 8);
        x.flush();
        due("the row 0", x.row(0, 0), 0);
        due("the row 2", x.row(2, 0), 10);
        Scenes.stop(x, 0);
        x.pass(5);
        x.set(COLOUR, 7);
        due("empty, in the colour of its time", x.row(0, 0), 8);
    }

    @Sentence("`row`: 0 to 2 * HEIGHT - 1")
    static void promise08RowsAre0ToTwiceHeightLess1() {
        for (int height = 2; height <= 16; height++) {
            LineDoubler x = new LineDoubler();
            x.set(HEIGHT, height);
            due("-1", x.row(-1, 0), -1);
            due("0", x.row(0, 0), -6);
            due("the last one", x.row(2 * height - 1, 0), -6);
            due("one more", x.row(2 * height, 0), -1);
            x.pass(10 * height);
            due("the last one has its line", x.row(2 * height - 1, 2), height - 1);
            due("one more", x.row(2 * height, 0), -1);
        }
    }

    @Sentence("`what`: 0 what it showed (the colour, if it was empty), 1 the picture, 2 the line (1, 2: NONE if it was empty)")
    static void promise08WhatIs0To2() {
        LineDoubler x = regular();
        x.set(COLOUR, 0);
        x.set(SCROLL, 50);
        x.slip(0, 6);
        x.pass(36);
        // Rows go out at 0, 5, .. 35; lines come at 6, 16 and 26.
        int[][] second = {{10, 0, 1}, {10, 0, 1}, {50, 1, 0}, {50, 1, 0}};
        look(x, second);
        x.undo();
        x.pass(16);
        int[][] first = {{0, -6, -6}, {0, -6, -6}, {0, 0, 0}, {0, 0, 0}};
        look(x, first);
    }

    private static void look(LineDoubler x, int[][] want) {
        for (int row = 0; row < 4; row++) {
            for (int what = 0; what < 3; what++) {
                due("row(" + row + ", " + what + ")", x.row(row, what), want[row][what]);
            }
        }
    }

    @Sentence("NO_SUCH if there is no such row;")
    static void promise08NoSuchRow() {
        LineDoubler x = regular();
        x.pass(40);
        due("-1", x.row(-1, 0), -1);
        due("3", x.row(3, 0), 10);
        due("4", x.row(4, 0), -1);
        due("31", x.row(31, 0), -1);
        due("low", x.row(LOW, 0), -1);
        due("high", x.row(HIGH, 0), -1);
    }

    @Sentence("Returns the number; NO_SUCH if there is no such row; BAD_VALUE if what is out of range;")
    static void promise08WhatOutOfRange() {
        LineDoubler x = regular();
        x.pass(1);
        for (int row = 0; row < 2; row++) {
            due("-1", x.row(row, -1), -2);
            due("0", x.row(row, 0), row == 0 ? 0 : -6);
            due("2", x.row(row, 2), row == 0 ? 0 : -6);
            due("3", x.row(row, 3), -2);
            due("low", x.row(row, LOW), -2);
            due("high", x.row(row, HIGH), -2);
        }
    }

    @Sentence("NONE if this row has never gone out.")
    static void promise08NoneIfItHasNeverGoneOut() {
        LineDoubler x = regular();
        for (int row = 0; row < 4; row++) {
            for (int what = 0; what < 3; what++) {
                due("ahead of it", x.row(row, what), -6);
            }
            x.pass(row == 0 ? 1 : 5);
            due("behind it", x.row(row, 2), row / 2);
        }
        x.undo();
        due("undone", x.row(3, 0), -6);
    }

    // ---- promise 9: ofMissing

    @Sentence("Returns something about a line that is missing; the latest 8 are kept.")
    static void promise09TheLatest8AreKept() {
        for (int missing = 0; missing <= 18; missing++) {
            LineDoubler x = Scenes.filled(1, 1, 0);
            Scenes.passAll(x, 2 * missing);
            due("missing", x.count(4), missing);
            int kept = Math.min(8, missing);
            for (int place = 0; place < kept; place++) {
                due("the tick", x.ofMissing(place, 3), 2 * (missing - place));
                due("the line", x.ofMissing(place, 1), (missing - place) % 16);
                due("the picture", x.ofMissing(place, 0), (missing - place) / 16);
            }
            due("no more of " + missing, x.ofMissing(kept, 3), -1);
        }
    }

    @Sentence("the latest 8 are kept.")
    static void promise09AFlushOf16KeepsTheLatest8() {
        LineDoubler x = Scenes.filled(16, 16, 0);
        x.flush();
        due("missing", x.count(4), 16);
        due("the latest", x.ofMissing(0, 1), 15);
        due("the 8th", x.ofMissing(7, 1), 8);
        due("no 9th", x.ofMissing(8, 1), -1);
        x.undo();
        due("undone", x.ofMissing(0, 1), -1);
    }

    @Sentence("`missing`: 0 for the latest one, and so on")
    static void promise09TheLatestIs0() {
        LineDoubler x = Scenes.filled(1, 1, 1);
        x.pass(5);
        due("the latest", x.ofMissing(0, 1), 2);
        due("the one before", x.ofMissing(1, 1), 1);
        due("the first one", x.ofMissing(2, 1), 0);
        due("-1", x.ofMissing(-1, 1), -1);
        Twins.onlyTells("ofMissing", Scenes::busy, y -> y.ofMissing(0, 0) + y.ofMissing(7, 3));
    }

    @Sentence("`what`: 0 its picture, 1 its line, 2 why: 0 there was no room, 1 it was dropped, 2 it was skipped, 3 the tick")
    static void promise09WhatIs0To3() {
        LineDoubler x = Scenes.filled(2, 2, 0);
        x.pass(1);
        x.set(DROP, 1);
        x.pass(28);
        x.flush();
        // At the tick 4 the line 2 had no room; by 32 the lines up to 14 were dropped; the two behind them are skipped.
        int[][] want = {{1, 0, 2, 33}, {0, 15, 2, 33}, {0, 14, 1, 32}, {0, 13, 1, 30}};
        for (int missing = 0; missing < 4; missing++) {
            for (int what = 0; what < 4; what++) {
                due("ofMissing(" + missing + ", " + what + ")", x.ofMissing(missing, what), want[missing][what]);
            }
        }
        x = Scenes.filled(2, 2, 0);
        x.pass(1);
        int[] first = {0, 2, 0, 4};
        for (int what = 0; what < 4; what++) {
            due("no room, " + what, x.ofMissing(0, what), first[what]);
        }
    }

    @Sentence("Returns the number; NO_SUCH if there is no such one;")
    static void promise09NoSuchOne() {
        LineDoubler x = new LineDoubler();
        due("none", x.ofMissing(0, 0), -1);
        x.pass(1);
        x.flush();
        due("one", x.ofMissing(0, 0), 0);
        due("no second one", x.ofMissing(1, 0), -1);
        due("-1", x.ofMissing(-1, 0), -1);
        due("low", x.ofMissing(LOW, 0), -1);
        due("high", x.ofMissing(HIGH, 0), -1);
    }

    @Sentence("BAD_VALUE if what is out of range.")
    static void promise09WhatOutOfRange() {
        LineDoubler x = Scenes.filled(16, 8, 0);
        x.flush();
        for (int missing = 0; missing < 8; missing += 7) {
            due("-1", x.ofMissing(missing, -1), -2);
            due("0", x.ofMissing(missing, 0), 0);
            due("3", x.ofMissing(missing, 3), 16);
            due("4", x.ofMissing(missing, 4), -2);
            due("low", x.ofMissing(missing, LOW), -2);
            due("high", x.ofMissing(missing, HIGH), -2);
        }
    }

    // ---- promise 10: count

    @Sentence("Returns a number. `what`: 0 the tick of now, 1 lines that came, 2 lines that wait, 3 lines that went out twice, "
            + "4 missing lines, 5 rows that went out, 6 empty rows, 7 the next row, 8 the number of the next line, 9 its "
            + "picture, 10 and 11 the ticks at which the next line comes and the next row goes out, 12 screens that were CLEAN, "
            + "13 TORN, 14 BLANKED, 15 how the latest screen was (NONE), 16 to 23 the settings, 24 the length of the pad, 25 "
            + "how many changes can be undone Returns the number;")
    static void promise10EachNumberHasItsPlace() {
        LineDoubler x = new LineDoubler();
        x.set(IN, 13);
        x.set(OUT, 3);
        x.set(ROOM, 2);
        x.set(HEIGHT, 2);
        x.set(COLOUR, 11);
        x.set(SCROLL, 12);
        x.pass(41);
        // Lines came at 0, 13, 26 and 39, rows went out at 0, 3, .. 39: the line 0 at 0 and 3, the line 1 at 15 and 18, the
        // line 0 of the picture 1 at 27 and 30, and its line 1 at 39.
        x.flush();
        Check.type(x, "t1;");
        int[] want = {41, 4, 0, 3, 1, 14, 7, 2, 0, 2, 52, 42, 0, 0, 3, 2, 13, 3, 2, 2, 0, 0, 11, 12, 3, 6};
        for (int what = 0; what < 26; what++) {
            due("count(" + what + ")", x.count(what), want[what]);
        }
        due("undo", x.undo(), 5);
        due("lines that wait", x.count(2), 1);
        due("missing lines", x.count(4), 0);
        due("changes", x.count(25), 5);
        Twins.onlyTells("count", Scenes::busy, y -> y.count(0) + y.count(25));
    }

    @Sentence("15 how the latest screen was (NONE),")
    static void promise10TheLatestScreenIsNoneAtFirst() {
        LineDoubler x = regular();
        due("none", x.count(15), -6);
        x.pass(15);
        due("none yet", x.count(15), -6);
        x.pass(1);
        due("clean", x.count(15), 0);
        x.undo();
        due("none again", x.count(15), -6);
    }

    @Sentence("16 to 23 the settings, 24 the length of the pad, 25 how many changes can be undone")
    static void promise10TheLastPlaces() {
        LineDoubler x = new LineDoubler();
        int[] settings = {2, 99, 16, 2, 1, 1, 128, 254};
        for (int setting = 0; setting < 8; setting++) {
            x.set(setting, settings[setting]);
            due("changes", x.count(25), Math.min(6, setting + 1));
        }
        for (int setting = 0; setting < 8; setting++) {
            due("setting", x.count(16 + setting), settings[setting]);
        }
        due("pad", x.count(24), 0);
        Check.type(x, "12345678123456781234567812345678123456781234567812345678123456781234567812345678");
        due("pad", x.count(24), 80);
    }

    @Sentence("BAD_VALUE if what is out of range.")
    static void promise10WhatOutOfRange() {
        LineDoubler x = new LineDoubler();
        due("-1", x.count(-1), -2);
        due("0", x.count(0), 0);
        due("25", x.count(25), 0);
        due("26", x.count(26), -2);
        due("low", x.count(LOW), -2);
        due("high", x.count(HIGH), -2);
    }

    // ---- promise 11: shown

    @Sentence("Returns how many rows of the screen, from the row 0 on, one after the other, showed a line as they went out last,")
    static void promise11FromTheRow0On() {
        LineDoubler x = regular();
        x.slip(0, 1);
        x.pass(16);
        due("the row 0 alone is empty", x.count(6), 1);
        due("shown", x.shown(), 0);
        x.pass(5);
        due("the row 0 of the next screen shows a line", x.row(0, 2), 1);
        due("and the rows of the screen before", x.shown(), 4);
        Twins.onlyTells("shown", Scenes::busy, LineDoubler::shown);
    }

    @Sentence("up to the first one that was empty")
    static void promise11UpToTheFirstEmptyOne() {
        for (int shown = 0; shown <= 4; shown++) {
            LineDoubler x = regular();
            if (shown > 0) {
                x.pass(5 * shown - 4);
            }
            // From this row on all rows of the screen are empty; the next screen begins at the tick 20.
            x.flush();
            Scenes.stop(x, 0);
            Scenes.passAll(x, 20 - x.count(0));
            due("shown", x.shown(), shown);
        }
    }

    @Sentence("up to the first one that was empty or has never gone out")
    static void promise11UpToTheFirstOneThatHasNeverGoneOut() {
        LineDoubler x = new LineDoubler();
        x.set(HEIGHT, 16);
        for (int rows = 0; rows < 32; rows++) {
            due("shown", x.shown(), rows);
            x.pass(rows == 0 ? 1 : 5);
        }
        due("all", x.shown(), 32);
    }

    @Sentence("(all, if all did).")
    static void promise11AllIfAllDid() {
        for (int height : new int[] {2, 16}) {
            LineDoubler x = new LineDoubler();
            x.set(HEIGHT, height);
            x.pass(10 * height - 5);
            due("all but one", x.shown(), 2 * height - 1);
            x.pass(1);
            due("all", x.shown(), 2 * height);
            x.pass(100);
            due("all still", x.shown(), 2 * height);
        }
    }

    @Sentence("Returns how many.")
    static void promise11ReturnsHowMany() {
        LineDoubler x = new LineDoubler();
        due("none", x.shown(), 0);
        x.pass(1);
        due("one", x.shown(), 1);
        x.undo();
        due("none again", x.shown(), 0);
    }

    // ---- promise 12: ratio

    private static int bits(int in, int out) {
        return Float.floatToIntBits((float) ((double) in / (2 * out)));
    }

    @Sentence("Returns the ratio of the clocks: the bits, as Float.floatToIntBits tells them, of the double that IN gives, "
            + "divided by twice OUT, made a float. Returns the bits.")
    static void promise12TheLeastAndTheGreatestRatio() {
        LineDoubler x = new LineDoubler();
        due("10 by 10", x.ratio(), 0x3f800000);
        x.set(IN, 2);
        due("2 by 10", x.ratio(), bits(2, 5));
        x.set(OUT, 99);
        due("2 by 198", x.ratio(), bits(2, 99));
        x.set(IN, 99);
        due("99 by 198", x.ratio(), 0x3f000000);
        x.set(OUT, 1);
        due("99 by 2", x.ratio(), 0x42460000);
        x.set(IN, 2);
        due("2 by 2", x.ratio(), 0x3f800000);
        Twins.onlyTells("ratio", Scenes::busy, LineDoubler::ratio);
    }

    @Sentence("of the double that IN gives, divided by twice OUT, made a float.")
    static void promise12MadeAFloatToTheNearest() {
        int[][] cases = {{2, 3}, {5, 3}, {7, 3}, {64, 33}, {65, 33}, {3, 97}, {97, 49}, {99, 98}, {98, 99}, {31, 32}};
        for (int[] each : cases) {
            LineDoubler x = new LineDoubler();
            x.set(IN, each[0]);
            x.set(OUT, each[1]);
            due(each[0] + " by twice " + each[1], x.ratio(), bits(each[0], each[1]));
        }
    }

    // ---- promise 13: fill

    @Sentence("Returns how many lines waited in the mean: the bits, as Double.doubleToLongBits tells them, of the double that "
            + "the sum of the lines that waited behind each tick gives, divided by the ticks that passed.")
    static void promise13TheSumBehindEachTick() {
        LineDoubler x = new LineDoubler();
        x.set(OUT, 2);
        // The line 0 waits behind the ticks 0 and 1, and does not behind the tick 2, at which it has gone out twice.
        int[] sums = {1, 2, 2, 2};
        for (int tick = 0; tick < 4; tick++) {
            x.pass(1);
            due("fill", x.fill(), Double.doubleToLongBits((double) sums[tick] / (tick + 1)));
        }
        Twins.onlyTells("fill", Scenes::busy, y -> (int) y.fill());
    }

    @Sentence("the sum of the lines that waited behind each tick")
    static void promise13FlushedLinesWaitedBehindTheTicksBefore() {
        LineDoubler x = Scenes.filled(16, 4, 0);
        long sum = 1 + 1 + 2 + 2 + 3 + 3 + 4 + 4;
        due("fill", x.fill(), Double.doubleToLongBits(sum / 8.0));
        x.flush();
        due("fill", x.fill(), Double.doubleToLongBits(sum / 8.0));
        x.slip(0, 1);
        x.pass(1);
        due("fill", x.fill(), Double.doubleToLongBits(sum / 9.0));
    }

    @Sentence("the sum of the lines that waited behind each tick gives, divided by the ticks that passed.")
    static void promise13AFullBufferUpToTheLastTick() {
        LineDoubler x = new LineDoubler();
        x.set(ROOM, 16);
        x.set(IN, 2);
        x.set(OUT, 99);
        Scenes.passAll(x, 60);
        long sum = 2 * (15 * 16 / 2) + 30 * 16;
        due("60 ticks", x.fill(), Double.doubleToLongBits(sum / 60.0));
        for (int blocks = 0; blocks < 100; blocks++) {
            x.pass(999);
        }
        x.pass(39);
        due("tick of now", x.count(0), 99999);
        // At the ticks 99, 297, .. 99891 a line goes out for the second time, and the next one comes a tick later.
        sum += (99999 - 60) * 16 - 505;
        due("99999 ticks", x.fill(), Double.doubleToLongBits(sum / 99999.0));
    }

    @Sentence("Returns the bits (0 if no tick passed).")
    static void promise13NoTickPassed() {
        LineDoubler x = new LineDoubler();
        due("no tick", x.fill(), 0);
        x.pass(1);
        due("one tick", x.fill(), Double.doubleToLongBits(1.0));
        x.undo();
        due("no tick again", x.fill(), 0);
        x.save(0);
        x.pass(2);
        x.restore(0);
        due("no tick by restore", x.fill(), 0);
    }

    @Sentence("Returns the bits (0 if no tick passed).")
    static void promise13NoLineWaited() {
        LineDoubler x = new LineDoubler();
        x.slip(0, 9);
        x.pass(9);
        due("the bits of 0", x.fill(), 0);
        x.pass(1);
        due("a tenth", x.fill(), Double.doubleToLongBits(0.1));
    }
}
