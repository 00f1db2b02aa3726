/** The sentences of the section Terms at their bounds: conventions, settings, lines, constants. */
public final class EdgesOfTermsTest {
    private static final int IN = 0, OUT = 1, ROOM = 2, HEIGHT = 3, DROP = 4, SYNC = 5, COLOUR = 6, SCROLL = 7;

    public static void main(String[] args) throws Exception {
        Check.run(EdgesOfTermsTest.class);
    }

    private static void due(String call, long got, long want) {
        Check.due(call, got, want);
    }

    // ---- conventions; that a refused call changes nothing is told by ErrorsTest, too, call by call

    @Sentence("CONVENTIONS. A method that fails returns one of the error codes NO_SUCH (-1), BAD_VALUE (-2), BAD_TEXT (-3), "
            + "TOO_MANY (-4) and NOT_POSSIBLE (-5);")
    static void termsErrorCodes() {
        LineDoubler x = Scenes.at(99999);
        due("NO_SUCH", x.value(16, 0), -1);
        due("BAD_VALUE", x.set(IN, 1), -2);
        due("BAD_TEXT", x.carryOut(), -3);
        due("TOO_MANY", x.pass(1), -4);
        due("NOT_POSSIBLE", x.set(HEIGHT, 4), -5);
    }

    @Sentence("it names its errors in the order in which they are checked, and the first one that applies is returned.")
    static void termsTheFirstErrorThatAppliesIsReturned() {
        LineDoubler x = Scenes.at(99999);
        due("no such line ahead of the value", x.value(16, 256), -1);
        due("the value ahead of what is not possible", x.set(HEIGHT, 17), -2);
        due("the value ahead of too many", x.pass(1000), -2);
        due("no such row ahead of what", x.row(8, 3), -1);
        due("no such line ahead of what", x.waiting(4, 4), -1);
        due("no such missing one ahead of what", x.ofMissing(0, 4), -1);
        x = Scenes.padOf(80);
        due("the characters ahead of too many", x.put(32), -2);
    }

    @Sentence("A call that returns an error changes nothing.")
    static void termsAnErrorChangesNothing() {
        Twins.refuse("NO_SUCH", Scenes::busy, x -> x.value(16, 7), -1);
        Twins.refuse("BAD_VALUE", Scenes::busy, x -> x.set(OUT, 100), -2);
        Twins.refuse("BAD_TEXT", () -> Scenes.padOf(3), LineDoubler::carryOut, -3);
        Twins.refuse("TOO_MANY", () -> Scenes.at(99001), x -> x.pass(999), -4);
        Twins.refuse("NOT_POSSIBLE", Scenes::busy, x -> x.set(HEIGHT, 5), -5);
    }

    @Sentence("NONE (-6) is not an error; it is returned only if no error applies.")
    static void termsNoneOnlyIfNoErrorApplies() {
        LineDoubler x = new LineDoubler();
        due("no screen yet", x.count(15), -6);
        due("a row that has never gone out", x.row(0, 2), -6);
        due("but what is 3", x.row(0, 3), -2);
        due("but there is no such row", x.row(8, 2), -1);
        x.set(IN, 2);
        Scenes.stop(x, 1);
        due("no such room", x.leastRoom(999), -6);
        due("but the ticks are too many", x.leastRoom(1000), -2);
        x.put('t');
        due("a fault", x.fault(), 1);
        x.put('1');
        due("no fault", x.fault(), -6);
    }

    @Sentence("Everything is numbered from 0.")
    static void termsEverythingIsNumberedFrom0() {
        LineDoubler x = Scenes.filledOnceOut(3, 4, 0);
        due("the first setting", x.count(16), 2);
        due("the first place, picture", x.waiting(0, 0), 0);
        due("the first place, line", x.waiting(0, 1), 0);
        due("the first row", x.row(0, 2), 0);
        due("the latest missing line", x.ofMissing(0, 1), 3);
        due("the first line", x.value(0, 9), 0);
        due("the first clock", x.slip(0, 1), 9);
        due("the first slot", x.save(0), 8);
        due("the first character that cannot stand", x.fault(), 0);
    }

    // ---- settings

    /** Both sides of both bounds, with what is returned and what count() shows; the first value is told to it. */
    private static void range(int setting, int least, int most, int first) {
        LineDoubler x = new LineDoubler();
        due("first", x.count(16 + setting), first);
        due("below the least", x.set(setting, least - 1), -2);
        due("above the most", x.set(setting, most + 1), -2);
        due("it stays", x.count(16 + setting), first);
        due("the least", x.set(setting, least), first);
        due("it is", x.count(16 + setting), least);
        due("below the least", x.set(setting, least - 1), -2);
        due("the most", x.set(setting, most), least);
        due("it is", x.count(16 + setting), most);
        due("above the most", x.set(setting, most + 1), -2);
        due("it stays", x.count(16 + setting), most);
        due("changes", x.count(25), 2);
    }

    @Sentence("(In parentheses: range; first value.) IN (2 to 99; 10) and")
    static void termsInIs2To99() {
        range(IN, 2, 99, 10);
        LineDoubler x = new LineDoubler();
        x.set(IN, 2);
        x.pass(3);
        due("lines at 0 and 2", x.count(1), 2);
        x.set(IN, 99);
        x.pass(2);
        due("a line at 4", x.count(1), 3);
        x.pass(98);
        due("none by 102", x.count(1), 3);
        x.pass(1);
        due("one at 103", x.count(1), 4);
    }

    @Sentence("OUT (1 to 99; 5), in ticks;")
    static void termsOutIs1To99() {
        range(OUT, 1, 99, 5);
        LineDoubler x = new LineDoubler();
        x.set(OUT, 1);
        x.pass(7);
        due("a row in each tick", x.count(5), 7);
        x.set(OUT, 99);
        x.pass(1);
        due("a row at 7", x.count(5), 8);
        x.pass(98);
        due("none by 105", x.count(5), 8);
        x.pass(1);
        due("one at 106", x.count(5), 9);
    }

    @Sentence("ROOM (1 to 16; 4);")
    static void termsRoomIs1To16() {
        range(ROOM, 1, 16, 4);
        for (int room : new int[] {1, 4, 16}) {
            LineDoubler x = Scenes.filled(room, room, 0);
            due("all wait", x.count(2), room);
            due("none is missing", x.count(4), 0);
            x.pass(1);
            due("no more wait", x.count(2), room);
            due("one is missing", x.count(4), 1);
        }
    }

    @Sentence("HEIGHT (2 to 16; 4);")
    static void termsHeightIs2To16() {
        range(HEIGHT, 2, 16, 4);
        for (int height : new int[] {2, 4, 16}) {
            LineDoubler x = new LineDoubler();
            x.set(HEIGHT, height);
            due("the last row", x.row(2 * height - 1, 0), -6);
            due("the next one", x.row(2 * height, 0), -1);
        }
    }

    @Sentence("DROP (0 or 1; 0);")
    static void termsDropIs0Or1() {
        range(DROP, 0, 1, 0);
        for (int drop = 0; drop < 2; drop++) {
            LineDoubler x = Scenes.filled(2, 2, drop);
            x.pass(1);
            due("the line that is missing", x.ofMissing(0, 1), drop == 1 ? 0 : 2);
        }
    }

    @Sentence("SYNC (0 or 1; 0);")
    static void termsSyncIs0Or1() {
        range(SYNC, 0, 1, 0);
        for (int sync = 0; sync < 2; sync++) {
            LineDoubler x = Scenes.quick(6, sync);
            x.pass(1);
            x.flush();
            x.pass(6);
            due("the row 0 shows the line", x.row(0, 2), sync == 1 ? 0 : 1);
        }
    }

    @Sentence("COLOUR (0 to 255; 255);")
    static void termsColourIs0To255() {
        range(COLOUR, 0, 255, 255);
        LineDoubler x = new LineDoubler();
        Scenes.stop(x, 0);
        x.pass(1);
        x.set(COLOUR, 0);
        x.pass(5);
        x.set(COLOUR, 255);
        x.pass(5);
        due("the first colour", x.row(0, 0), 255);
        due("the least one", x.row(1, 0), 0);
        due("the greatest one", x.row(2, 0), 255);
    }

    @Sentence("SCROLL (0 to 255; 0).")
    static void termsScrollIs0To255() {
        range(SCROLL, 0, 255, 0);
        int[] told = {0, 255, 254, 253};
        for (int scroll = 0; scroll < 256; scroll += 255) {
            LineDoubler x = Scenes.quick(99, 0);
            x.set(SCROLL, scroll);
            x.pass(14);
            for (int picture = 0; picture < 4; picture++) {
                due("picture " + picture, x.waiting(2 * picture, 2), scroll == 0 ? 0 : told[picture]);
            }
        }
    }

    @Sentence("HEIGHT can change only while the tick of now is 0,")
    static void termsHeightCanChangeOnlyAtTheTick0() {
        LineDoubler x = new LineDoubler();
        due("at 0", x.set(HEIGHT, 16), 4);
        due("at 0 again", x.set(HEIGHT, 2), 16);
        x.slip(0, 99);
        x.flush();
        due("at 0 still", x.set(HEIGHT, 3), 2);
        x.pass(1);
        due("at 1", x.set(HEIGHT, 4), -5);
        due("at 1, the least", x.set(HEIGHT, 2), -5);
        due("at 1, the greatest", x.set(HEIGHT, 16), -5);
        due("at 1, the one that it has", x.set(HEIGHT, 3), -5);
        due("it stays", x.count(19), 3);
        due("the rows, too", x.row(6, 0), -1);
        x.undo();
        due("at 0 by undo", x.set(HEIGHT, 5), 3);
        x.save(1);
        x.pass(999);
        due("at 999", x.set(HEIGHT, 6), -5);
        x.restore(1);
        due("at 0 by restore", x.set(HEIGHT, 7), 5);
        due("rows", x.row(13, 0), -6);
        due("rows", x.row(14, 0), -1);
    }

    @Sentence("ROOM not to less than the lines that wait.")
    static void termsRoomNotToLessThanTheLinesThatWait() {
        for (int lines = 0; lines <= 16; lines++) {
            LineDoubler x = Scenes.filled(16, lines, 0);
            if (lines > 1) {
                due("one less than " + lines, x.set(ROOM, lines - 1), -5);
                due("1, and " + lines + " wait", x.set(ROOM, 1), -5);
                due("it stays", x.count(18), 16);
            }
            due("as many as wait", x.set(ROOM, Math.max(1, lines)), 16);
            due("it is", x.count(18), Math.max(1, lines));
            due("they wait still", x.count(2), lines);
            if (lines > 1) {
                x.flush();
                due("when none waits", x.set(ROOM, 1), lines);
            }
        }
    }

    @Sentence("ROOM not to less than the lines that wait.")
    static void termsALineThatWentOutOnceStillTakesRoom() {
        LineDoubler x = Scenes.filledOnceOut(16, 2, 0);
        due("out once", x.waiting(0, 3), 1);
        due("1", x.set(ROOM, 1), -5);
        due("2", x.set(ROOM, 2), 16);
    }

    // ---- lines

    @Sentence("A picture that comes has HEIGHT lines.")
    static void termsAPictureHasHeightLines() {
        for (int height : new int[] {2, 3, 15, 16}) {
            LineDoubler x = new LineDoubler();
            x.set(HEIGHT, height);
            x.set(IN, 2);
            x.pass(2 * height - 2);
            due("all but the last one came", x.count(1), height - 1);
            due("the last one is next", x.count(8), height - 1);
            due("its picture", x.count(9), 0);
            x.pass(1);
            due("all came", x.count(1), height);
            due("the line 0 is next", x.count(8), 0);
            due("its picture", x.count(9), 1);
        }
    }

    @Sentence("There are 16 values, one for each line of a picture (0 to 255; the line k has 10 * k at first).")
    static void termsThereAre16Values() {
        LineDoubler x = Scenes.filled(16, 16, 0);
        for (int line = 0; line < 16; line++) {
            due("told with", x.waiting(line, 2), 10 * line);
        }
        for (int line = 0; line < 16; line++) {
            due("the line " + line, x.value(line, 255), 10 * line);
            due("255", x.value(line, 0), 255);
            due("0", x.value(line, 0), 0);
            due("256", x.value(line, 256), -2);
            due("-1", x.value(line, -1), -2);
        }
        due("a 17th one", x.value(16, 0), -1);
    }

    @Sentence("The line k of the picture p is told with the value of k, and SCROLL times p, left over by 256")
    static void termsLeftOverBy256() {
        int[][] cases = {{0, 255, 255}, {0, 0, 0}, {1, 255, 0}, {1, 254, 255}, {2, 255, 1}, {2, 254, 0}, {2, 253, 255},
            {255, 0, 255}, {255, 1, 0}, {255, 255, 254}, {128, 128, 0}, {128, 127, 255}};
        for (int[] each : cases) {
            LineDoubler x = Scenes.quick(99, 0);
            x.set(SCROLL, each[0]);
            x.value(0, each[1]);
            x.pass(5);
            due("picture 0", x.waiting(0, 2), each[1]);
            due("picture 1, " + each[1] + " and " + each[0], x.waiting(2, 2), each[2]);
            due("its line 1 has its own value", x.waiting(1, 2), 10);
        }
    }

    @Sentence("SCROLL times p, left over by 256")
    static void termsScrollTimesALatePictureIsLeftOverBy256() {
        LineDoubler x = Scenes.quick(0, 0);
        x.set(OUT, 1);
        x.set(SCROLL, 255);
        x.value(1, 255);
        Scenes.passAll(x, 99997);
        x.flush();
        // The line 49999 comes at the tick 99998.
        x.slip(1, 9);
        x.pass(2);
        due("picture", x.waiting(0, 0), 24999);
        due("line", x.waiting(0, 1), 1);
        due("told with", x.waiting(0, 2), (255 + 255 * 24999) % 256);
    }

    @Sentence("(as they are when it comes).")
    static void termsToldAsTheyAreWhenItComes() {
        LineDoubler x = Scenes.quick(99, 0);
        x.set(SCROLL, 3);
        x.value(0, 100);
        x.pass(4);
        // The line 0 of the picture 1 comes in the tick of now.
        x.value(0, 50);
        x.set(SCROLL, 7);
        due("the line that came", x.waiting(0, 2), 100);
        x.pass(1);
        x.value(0, 20);
        x.set(SCROLL, 9);
        due("as it was in its tick", x.waiting(2, 2), 57);
        x.slip(1, 1);
        x.pass(105);
        due("the row shows what it was told with", x.row(0, 0), 100);
    }

    @Sentence("Lines wait in the buffer in the order in which they came;")
    static void termsLinesWaitInTheOrderInWhichTheyCame() {
        LineDoubler x = Scenes.quick(99, 0);
        x.pass(31);
        for (int place = 0; place < 16; place++) {
            due("picture", x.waiting(place, 0), place / 2);
            due("line", x.waiting(place, 1), place % 2);
        }
        due("no more", x.waiting(16, 0), -1);
    }

    @Sentence("the first one of them stays there until it has gone out twice.")
    static void termsTheFirstOneStaysUntilItHasGoneOutTwice() {
        LineDoubler x = Scenes.quick(4, 0);
        x.pass(4);
        due("not out yet", x.waiting(0, 3), 0);
        x.pass(1);
        due("out once", x.waiting(0, 3), 1);
        due("the same", x.waiting(0, 1), 0);
        due("three wait", x.count(2), 3);
        due("none out twice", x.count(3), 0);
        x.pass(4);
        due("still once", x.waiting(0, 3), 1);
        due("still the same", x.waiting(0, 0), 0);
        x.pass(1);
        due("out twice", x.count(3), 1);
        due("the next one is the first", x.waiting(0, 1), 1);
        due("it is not out yet", x.waiting(0, 3), 0);
    }

    // ---- constants

    @Sentence("The constants: `NO_SUCH = -1, BAD_VALUE = -2, BAD_TEXT = -3, TOO_MANY = -4, NOT_POSSIBLE = -5, NONE = -6`: "
            + "Error codes, and NONE: there is none.")
    static void termsConstantsOfErrors() {
        int[] codes = {LineDoubler.NO_SUCH, LineDoubler.BAD_VALUE, LineDoubler.BAD_TEXT, LineDoubler.TOO_MANY,
            LineDoubler.NOT_POSSIBLE, LineDoubler.NONE};
        for (int code = 0; code < codes.length; code++) {
            due("code", codes[code], -1 - code);
        }
    }

    @Sentence("`IN = 0, OUT = 1, ROOM = 2, HEIGHT = 3, DROP = 4, SYNC = 5, COLOUR = 6, SCROLL = 7`: Settings.")
    static void termsConstantsOfSettings() {
        int[] settings = {LineDoubler.IN, LineDoubler.OUT, LineDoubler.ROOM, LineDoubler.HEIGHT, LineDoubler.DROP,
            LineDoubler.SYNC, LineDoubler.COLOUR, LineDoubler.SCROLL};
        for (int setting = 0; setting < settings.length; setting++) {
            due("setting", settings[setting], setting);
        }
    }

    @Sentence("`CLEAN = 0, TORN = 1, BLANKED = 2`: How a screen was.")
    static void termsConstantsOfScreens() {
        due("CLEAN", LineDoubler.CLEAN, 0);
        due("TORN", LineDoubler.TORN, 1);
        due("BLANKED", LineDoubler.BLANKED, 2);
    }
}
