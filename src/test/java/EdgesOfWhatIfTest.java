/** The sentences of the promises 14 to 16 at their bounds: would, leastRoom, bestOut. */
public final class EdgesOfWhatIfTest {
    private static final int IN = 0, OUT = 1, ROOM = 2, HEIGHT = 3, SYNC = 5;
    private static final int LOW = Integer.MIN_VALUE, HIGH = Integer.MAX_VALUE;

    public static void main(String[] args) throws Exception {
        Check.run(EdgesOfWhatIfTest.class);
    }

    private static void due(String call, long got, long want) {
        Check.due(call, got, want);
    }

    /** So many lines wait, and no row goes out any more; the next line comes in the tick of now. */
    private static LineDoubler stuck(int room, int lines, int drop) {
        LineDoubler x = Scenes.filled(room, lines, drop);
        Scenes.stop(x, 1);
        return x;
    }

    // ---- promise 14: would

    @Sentence("Tells what the next ticks would bring, if only time passed.")
    static void promise14TellsWhatPassBrings() {
        for (int ticks : new int[] {1, 2, 50, 998, 999}) {
            int[] would = new int[3];
            LineDoubler x = Scenes.busy();
            for (int what = 0; what < 3; what++) {
                would[what] = x.would(ticks, what);
            }
            int[] before = {x.count(4), x.count(6), x.count(12)};
            x.pass(ticks);
            due("missing in " + ticks, would[0], x.count(4) - before[0]);
            due("empty in " + ticks, would[1], x.count(6) - before[1]);
            due("clean in " + ticks, would[2], x.count(12) - before[2]);
        }
    }

    @Sentence("Tells what the next ticks would bring, if only time passed.")
    static void promise14OnlyTells() {
        for (int what = 0; what < 3; what++) {
            int asked = what;
            Twins.onlyTells("would", Scenes::busy, x -> x.would(999, asked));
        }
    }

    @Sentence("Tells what the next ticks would bring, if only time passed.")
    static void promise14AlsoBehindTheLastTick() {
        LineDoubler x = Scenes.at(99999);
        due("one clean screen in 40 ticks", x.would(41, 2), 1);
        due("25 in 999 ticks", x.would(999, 2), 25);
        Scenes.stop(x, 0);
        due("empty rows at 100000, 100005, .. 100995", x.would(999, 1), 200);
        due("tick of now", x.count(0), 99999);
    }

    @Sentence("`ticks`: 1 to 999")
    static void promise14TicksAre1To999() {
        LineDoubler x = new LineDoubler();
        Scenes.stop(x, 0);
        x.set(OUT, 1);
        due("0", x.would(0, 1), -2);
        due("1", x.would(1, 1), 1);
        due("2", x.would(2, 1), 2);
        due("998", x.would(998, 1), 998);
        due("999", x.would(999, 1), 999);
        due("1000", x.would(1000, 1), -2);
    }

    @Sentence("`what`: 0 missing lines,")
    static void promise14MissingLines() {
        for (int drop = 0; drop < 2; drop++) {
            LineDoubler x = stuck(3, 3, drop);
            due("in its tick", x.would(1, 0), 1);
            due("ahead of the next one", x.would(2, 0), 1);
            due("the next one", x.would(3, 0), 2);
            due("500 of them", x.would(999, 0), 500);
            x = stuck(3, 2, drop);
            due("there is room for one", x.would(2, 0), 0);
            due("and for no more", x.would(3, 0), 1);
        }
    }

    @Sentence("`what`: 0 missing lines,")
    static void promise14SkippedLinesAreMissing() {
        LineDoubler x = Scenes.quick(6, 1);
        x.pass(1);
        x.flush();
        due("ahead of the row 0", x.would(5, 0), 0);
        due("with the row 0", x.would(6, 0), 1);
        x.set(SYNC, 0);
        due("none with SYNC as 0", x.would(6, 0), 0);
        due("the flushed one is of before", x.count(4), 1);
    }

    @Sentence("1 empty rows,")
    static void promise14EmptyRows() {
        LineDoubler x = new LineDoubler();
        x.slip(0, 6);
        due("in its tick", x.would(1, 1), 1);
        due("ahead of the next one", x.would(5, 1), 1);
        due("the next one", x.would(6, 1), 2);
        due("then a line waits", x.would(999, 1), 2);
        x.pass(6);
        due("none any more", x.would(999, 1), 0);
    }

    @Sentence("2 screens that are CLEAN")
    static void promise14CleanScreens() {
        LineDoubler x = new LineDoubler();
        x.set(HEIGHT, 2);
        due("ahead of the last row", x.would(15, 2), 0);
        due("with the last row", x.would(16, 2), 1);
        due("ahead of the next one", x.would(35, 2), 1);
        due("with the next one", x.would(36, 2), 2);
        x.pass(16);
        due("those that come", x.would(19, 2), 0);
        due("those that come", x.would(20, 2), 1);
        x.undo();
        x.slip(0, 3);
        due("torn and blanked ones are none", x.would(999, 2), 0);
    }

    @Sentence("Returns how many; BAD_VALUE if an argument is out of range.")
    static void promise14BadValue() {
        LineDoubler x = new LineDoubler();
        for (int what = 0; what < 3; what++) {
            due("taken", x.would(1, what), 0);
            for (int ticks : new int[] {0, -1, 1000, LOW, HIGH}) {
                due("would(" + ticks + ", " + what + ")", x.would(ticks, what), -2);
            }
        }
        for (int what : new int[] {-1, 3, LOW, HIGH}) {
            due("would(1, " + what + ")", x.would(1, what), -2);
            due("would(999, " + what + ")", x.would(999, what), -2);
            due("would(0, " + what + ")", x.would(0, what), -2);
        }
    }

    // ---- promise 15: leastRoom

    @Sentence("Finds the least ROOM, 1 to 16,")
    static void promise15From1To16() {
        for (int room = 1; room <= 16; room++) {
            LineDoubler x = new LineDoubler();
            x.set(IN, 2);
            Scenes.stop(x, 1);
            due("the last line that needs " + room, x.leastRoom(2 * room), room);
            due("its first tick", x.leastRoom(2 * room - 1), room);
            x.set(ROOM, room);
            due("no line is missing", x.would(2 * room, 0), 0);
            if (room > 1) {
                x.set(ROOM, room - 1);
                due("with one less a line is", x.would(2 * room, 0), 1);
            }
        }
    }

    @Sentence("but not less than the lines that wait,")
    static void promise15NotLessThanTheLinesThatWait() {
        for (int lines = 0; lines <= 16; lines++) {
            LineDoubler x = Scenes.filled(16, lines, 0);
            Scenes.stop(x, 0);
            due(lines + " wait", x.leastRoom(999), Math.max(1, lines));
        }
    }

    @Sentence("with which no line would be missing in the next ticks, if only time passed.")
    static void promise15ALineIsMissingInTheLastTick() {
        LineDoubler x = stuck(16, 3, 0);
        due("a line in the tick of now", x.leastRoom(1), 4);
        due("none in the next one", x.leastRoom(2), 4);
        due("one in the third", x.leastRoom(3), 5);
        due("16 lines", x.leastRoom(26), 16);
        due("17 lines", x.leastRoom(27), -6);
    }

    @Sentence("with which no line would be missing in the next ticks,")
    static void promise15ADroppedLineIsMissing() {
        LineDoubler x = stuck(16, 16, 1);
        due("no room is enough", x.leastRoom(1), -6);
        x = stuck(16, 15, 1);
        due("16 is enough", x.leastRoom(1), 16);
    }

    @Sentence("with which no line would be missing in the next ticks,")
    static void promise15ASkippedLineIsMissing() {
        LineDoubler x = Scenes.quick(6, 1);
        x.pass(1);
        x.flush();
        due("ahead of the row 0", x.leastRoom(5), 2);
        due("with the row 0", x.leastRoom(6), -6);
        x.set(SYNC, 0);
        due("with SYNC as 0", x.leastRoom(6), 3);
    }

    @Sentence("with which no line would be missing in the next ticks,")
    static void promise15ARoomThatIsGreaterThanRoom() {
        LineDoubler x = Scenes.quick(20, 0);
        x.set(ROOM, 1);
        due("11 lines come by the tick 20", x.leastRoom(20), 10);
        due("11 lines come by the tick 20", x.leastRoom(21), 11);
        due("ROOM stays", x.count(18), 1);
        Twins.onlyTells("leastRoom", Scenes::busy, y -> y.leastRoom(999));
    }

    @Sentence("`ticks`: 1 to 999")
    static void promise15TicksAre1To999() {
        LineDoubler x = new LineDoubler();
        x.set(IN, 99);
        Scenes.stop(x, 1);
        // Lines come at 0, 99, .. 990.
        due("0", x.leastRoom(0), -2);
        due("1", x.leastRoom(1), 1);
        due("99", x.leastRoom(99), 1);
        due("100", x.leastRoom(100), 2);
        due("990", x.leastRoom(990), 10);
        due("991", x.leastRoom(991), 11);
        due("999", x.leastRoom(999), 11);
        due("1000", x.leastRoom(1000), -2);
        x.slip(0, 8);
        due("a line at 998", x.leastRoom(999), 11);
        due("none by 997", x.leastRoom(998), 10);
    }

    @Sentence("Returns the setting; BAD_VALUE if ticks is out of range;")
    static void promise15BadValue() {
        LineDoubler x = new LineDoubler();
        for (int ticks : new int[] {0, -1, 1000, LOW, HIGH}) {
            due("leastRoom(" + ticks + ")", x.leastRoom(ticks), -2);
        }
    }

    @Sentence("NONE if there is none.")
    static void promise15NoneIfThereIsNone() {
        LineDoubler x = stuck(16, 16, 0);
        due("16 wait, and one comes", x.leastRoom(1), -6);
        x.slip(0, 1);
        due("it comes a tick later", x.leastRoom(1), 16);
        due("it comes a tick later", x.leastRoom(2), -6);
    }

    @Sentence("NONE if there is none.")
    static void promise15AlsoBehindTheLastTick() {
        LineDoubler x = Scenes.at(99999);
        due("1 is enough", x.leastRoom(999), 1);
        Scenes.stop(x, 1);
        x.set(IN, 99);
        due("11 lines", x.leastRoom(999), 11);
        x.slip(0, 98);
        x.set(IN, 2);
        due("none", x.leastRoom(999), -6);
    }

    // ---- promise 16: bestOut

    @Sentence("Finds the OUT, 1 to 99,")
    static void promise16From1To99() {
        LineDoubler x = new LineDoubler();
        x.set(IN, 2);
        due("1", x.bestOut(999, 0), 1);
        due("none", x.bestOut(999, 1), 0);
        x = new LineDoubler();
        Scenes.stop(x, 0);
        // Without any line each row is empty, at 0, OUT, 2 * OUT and so on.
        due("98 is the least with one row in 98 ticks", x.bestOut(98, 0), 98);
        due("99 is the least with one row in 99 ticks", x.bestOut(99, 0), 99);
        due("50 is the least with two rows in 100 ticks", x.bestOut(100, 0), 50);
        due("99 is the least with 2 rows in 198 ticks", x.bestOut(198, 0), 99);
        due("99 is the least with 11 rows in 999 ticks", x.bestOut(999, 1), 11);
    }

    @Sentence("with which there would be the fewest missing lines and empty rows together in the next ticks, if only time "
            + "passed;")
    static void promise16MissingLinesAndEmptyRowsTogether() {
        for (int ticks : new int[] {37, 100, 999}) {
            LineDoubler x = new LineDoubler();
            x.set(ROOM, 1);
            int fewest = HIGH;
            int best = 0;
            for (int out = 1; out <= 99; out++) {
                x.set(OUT, out);
                int together = x.would(ticks, 0) + x.would(ticks, 1);
                if (together < fewest) {
                    fewest = together;
                    best = out;
                }
            }
            due("the best in " + ticks, x.bestOut(ticks, 0), best);
            due("the fewest in " + ticks, x.bestOut(ticks, 1), fewest);
        }
    }

    @Sentence("with which there would be the fewest missing lines and empty rows together in the next ticks,")
    static void promise16TheTickOfTheNextRowStays() {
        LineDoubler x = new LineDoubler();
        Scenes.stop(x, 0);
        x.set(OUT, 7);
        x.pass(1);
        due("ahead of the next row", x.bestOut(6, 1), 0);
        due("ahead of the next row", x.bestOut(6, 0), 1);
        due("with the next row", x.bestOut(7, 1), 1);
        due("with the next row", x.bestOut(7, 0), 1);
        due("a tick later", x.bestOut(8, 0), 2);
        due("OUT stays", x.count(17), 7);
        Twins.onlyTells("bestOut", Scenes::busy, y -> y.bestOut(999, 0) + y.bestOut(999, 1));
    }

    @Sentence("of several the least one.")
    static void promise16OfSeveralTheLeastOne() {
        LineDoubler x = new LineDoubler();
        due("all are as good", x.bestOut(1, 0), 1);
        due("none", x.bestOut(1, 1), 0);
        due("a second row is not empty", x.bestOut(2, 0), 1);
        due("a third one is, with 1", x.bestOut(3, 0), 2);
        Scenes.stop(x, 1);
        x.set(IN, 2);
        due("no row goes out at all", x.bestOut(999, 0), 1);
        due("the lines are missing", x.bestOut(999, 1), 496);
    }

    @Sentence("`ticks`: 1 to 999")
    static void promise16TicksAre1To999() {
        LineDoubler x = new LineDoubler();
        Scenes.stop(x, 0);
        due("0", x.bestOut(0, 1), -2);
        due("1", x.bestOut(1, 1), 1);
        due("990", x.bestOut(990, 1), 10);
        due("991", x.bestOut(991, 1), 11);
        due("999", x.bestOut(999, 1), 11);
        due("1000", x.bestOut(1000, 1), -2);
    }

    @Sentence("`what`: 0 the setting, 1 how many they are")
    static void promise16WhatIs0Or1() {
        LineDoubler x = new LineDoubler();
        Scenes.stop(x, 0);
        due("-1", x.bestOut(3, -1), -2);
        due("the setting", x.bestOut(3, 0), 3);
        due("how many", x.bestOut(3, 1), 1);
        due("2", x.bestOut(3, 2), -2);
    }

    @Sentence("Returns the number; BAD_VALUE if an argument is out of range.")
    static void promise16BadValue() {
        LineDoubler x = new LineDoubler();
        for (int ticks : new int[] {0, -1, 1000, LOW, HIGH}) {
            due("bestOut(" + ticks + ", 0)", x.bestOut(ticks, 0), -2);
            due("bestOut(" + ticks + ", 1)", x.bestOut(ticks, 1), -2);
        }
        for (int what : new int[] {-1, 2, LOW, HIGH}) {
            due("bestOut(1, " + what + ")", x.bestOut(1, what), -2);
            due("bestOut(0, " + what + ")", x.bestOut(0, what), -2);
        }
    }

    @Sentence("Returns the number;")
    static void promise16AlsoBehindTheLastTick() {
        LineDoubler x = Scenes.at(99999);
        due("the one that fits", x.bestOut(999, 0), 5);
        due("none", x.bestOut(999, 1), 0);
    }
}
