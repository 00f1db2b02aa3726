/** The sentences of the promises 1 to 6 at their bounds: a new object, set, value, slip, pass, flush. */
public final class EdgesOfChangesTest {
    private static final int IN = 0, OUT = 1, ROOM = 2, HEIGHT = 3, DROP = 4, SYNC = 5;
    private static final int LOW = Integer.MIN_VALUE, HIGH = Integer.MAX_VALUE;
    private static final int[] LEAST = {2, 1, 1, 2, 0, 0, 0, 0};
    private static final int[] MOST = {99, 99, 16, 16, 1, 1, 255, 255};
    private static final int[] FIRST = {10, 5, 4, 4, 0, 0, 255, 0};
    private static final int LAST_TICK = 99999;

    public static void main(String[] args) throws Exception {
        Check.run(EdgesOfChangesTest.class);
    }

    private static void due(String call, long got, long want) {
        Check.due(call, got, want);
    }

    // ---- promise 1: a new object

    @Sentence("Creates an empty buffer,")
    static void promise01TheBufferIsEmpty() {
        LineDoubler x = new LineDoubler();
        due("waiting", x.count(2), 0);
        for (int what = 0; what < 4; what++) {
            due("place 0", x.waiting(0, what), -1);
        }
        due("shown", x.shown(), 0);
        due("flush", x.flush(), 0);
    }

    @Sentence("at the tick 0.")
    static void promise01AtTheTick0() {
        LineDoubler x = new LineDoubler();
        due("tick of now", x.count(0), 0);
        due("saved", x.save(0), 0);
        due("fill", x.fill(), 0);
        due("the greatest pass", x.pass(999), 999);
    }

    @Sentence("Creates an empty buffer, at the tick 0.")
    static void promise01ObjectsShareNothing() {
        LineDoubler x = Scenes.busy();
        Check.same("a new one", Check.all(new LineDoubler()), Check.all(new LineDoubler()));
        LineDoubler y = new LineDoubler();
        due("tick of now", y.count(0), 0);
        due("value", y.value(0, 5), 0);
        due("slot", y.restore(0), -5);
        due("pad", y.count(24), 0);
        due("history", y.count(25), 1);
        due("the other one", x.count(0), 69);
        due("its value", x.value(0, 1), 200);
    }

    // ---- promise 2: set

    @Sentence("Changes a setting")
    static void promise02ChangesOneSetting() {
        for (int setting = 0; setting < 8; setting++) {
            int value = FIRST[setting] == LEAST[setting] ? MOST[setting] : LEAST[setting];
            LineDoubler x = new LineDoubler();
            due("set", x.set(setting, value), FIRST[setting]);
            for (int other = 0; other < 8; other++) {
                due("the setting " + other, x.count(16 + other), other == setting ? value : FIRST[other]);
            }
        }
    }

    @Sentence("(ticks at which something comes or goes out next stay).")
    static void promise02TicksOfWhatIsNextStay() {
        LineDoubler x = new LineDoubler();
        x.pass(1);
        for (int value : new int[] {2, 99}) {
            x.set(IN, value);
            due("the next line", x.count(10), 10);
            x.set(OUT, value);
            due("the next row", x.count(11), 5);
        }
        x.pass(10);
        due("the line behind it", x.count(10), 109);
        due("the row behind it", x.count(11), 104);
    }

    @Sentence("(ticks at which something comes or goes out next stay).")
    static void promise02TicksStayAlsoAheadOfTheFirstOnes() {
        LineDoubler x = new LineDoubler();
        x.set(IN, 99);
        x.set(OUT, 99);
        due("the next line", x.count(10), 0);
        due("the next row", x.count(11), 0);
        x.slip(0, 7);
        x.set(IN, 2);
        due("the next line", x.count(10), 7);
    }

    @Sentence("This is a change.")
    static void promise02IsAChange() {
        for (int setting = 0; setting < 8; setting++) {
            LineDoubler x = new LineDoubler();
            x.set(setting, FIRST[setting]);
            due("one, though nothing is different", x.count(25), 1);
            x.set(setting, MOST[setting]);
            due("two", x.count(25), 2);
            due("undo", x.undo(), 1);
            due("the setting", x.count(16 + setting), FIRST[setting]);
        }
    }

    @Sentence("Returns the previous value;")
    static void promise02ReturnsThePreviousValue() {
        for (int setting = 0; setting < 8; setting++) {
            LineDoubler x = new LineDoubler();
            due("first", x.set(setting, LEAST[setting]), FIRST[setting]);
            due("least", x.set(setting, LEAST[setting]), LEAST[setting]);
            due("least", x.set(setting, MOST[setting]), LEAST[setting]);
            due("refused", x.set(setting, MOST[setting] + 1), -2);
            due("most", x.set(setting, FIRST[setting]), MOST[setting]);
        }
    }

    @Sentence("BAD_VALUE if there is no such setting,")
    static void promise02NoSuchSetting() {
        LineDoubler x = new LineDoubler();
        due("-1", x.set(-1, 5), -2);
        due("0", x.set(0, 5), 10);
        due("7", x.set(7, 5), 0);
        due("8", x.set(8, 5), -2);
        due("low", x.set(LOW, 5), -2);
        due("high", x.set(HIGH, 5), -2);
        due("changes", x.count(25), 2);
    }

    @Sentence("or the value is out of its range;")
    static void promise02ValueOutOfItsRange() {
        for (int setting = 0; setting < 8; setting++) {
            LineDoubler x = new LineDoubler();
            for (int value : new int[] {LEAST[setting] - 1, MOST[setting] + 1, LOW, HIGH}) {
                due("set(" + setting + ", " + value + ")", x.set(setting, value), -2);
                due("it stays", x.count(16 + setting), FIRST[setting]);
            }
            due("no change", x.count(25), 0);
        }
    }

    @Sentence("NOT_POSSIBLE as told.")
    static void promise02NotPossibleAsTold() {
        LineDoubler x = Scenes.filled(4, 3, 0);
        due("HEIGHT behind the tick 0", x.set(HEIGHT, 15), -5);
        due("2 for 3 lines that wait", x.set(ROOM, 2), -5);
        due("3 for 3 lines that wait", x.set(ROOM, 3), 4);
        for (int setting : new int[] {IN, OUT, DROP, SYNC, 6, 7}) {
            due("the others are possible", x.set(setting, 1 + LEAST[setting]) >= 0 ? 1 : 0, 1);
        }
    }

    // ---- promise 3: value

    @Sentence("Changes the value of a line. This is a change.")
    static void promise03ChangesOneValue() {
        for (int line = 0; line < 16; line++) {
            LineDoubler x = new LineDoubler();
            x.value(line, 251);
            due("one change", x.count(25), 1);
            for (int other = 0; other < 16; other++) {
                due("the value of " + other, x.value(other, 0), other == line ? 251 : 10 * other);
            }
        }
    }

    @Sentence("This is a change.")
    static void promise03IsAChangeAlsoIfNothingIsDifferent() {
        LineDoubler x = new LineDoubler();
        x.value(7, 70);
        due("one change", x.count(25), 1);
        x.value(7, 71);
        due("undo", x.undo(), 1);
        due("the value", x.value(7, 0), 70);
    }

    @Sentence("`line`: 0 to 15")
    static void promise03LinesAre0To15() {
        LineDoubler x = new LineDoubler();
        due("-1", x.value(-1, 5), -1);
        due("0", x.value(0, 5), 0);
        due("15", x.value(15, 5), 150);
        due("16", x.value(16, 5), -1);
        due("changes", x.count(25), 2);
    }

    @Sentence("`line`: 0 to 15")
    static void promise03LinesAboveHeightHaveValues() {
        LineDoubler x = new LineDoubler();
        x.set(HEIGHT, 2);
        due("line 2", x.value(2, 9), 20);
        due("line 15", x.value(15, 9), 150);
    }

    @Sentence("`value`: 0 to 255")
    static void promise03ValuesAre0To255() {
        LineDoubler x = new LineDoubler();
        due("-1", x.value(3, -1), -2);
        due("0", x.value(3, 0), 30);
        due("255", x.value(3, 255), 0);
        due("256", x.value(3, 256), -2);
        due("it stays", x.value(3, 1), 255);
        due("changes", x.count(25), 3);
    }

    @Sentence("Returns the previous value; NO_SUCH if there is no such line; BAD_VALUE if value is out of range.")
    static void promise03ReturnsThePreviousValueOrAnError() {
        LineDoubler x = new LineDoubler();
        due("10", x.value(1, 200), 10);
        due("200", x.value(1, 200), 200);
        due("200", x.value(1, 0), 200);
        due("no such line", x.value(LOW, 0), -1);
        due("no such line", x.value(HIGH, 0), -1);
        due("bad value", x.value(1, LOW), -2);
        due("bad value", x.value(1, HIGH), -2);
        due("both", x.value(16, -1), -1);
        due("0", x.value(1, 0), 0);
    }

    // ---- promise 4: slip

    @Sentence("Lets a clock slip: the next line comes, or the next row goes out, later. This is a change.")
    static void promise04TheNextOneIsLater() {
        for (int clock = 0; clock < 2; clock++) {
            LineDoubler x = new LineDoubler();
            due("slip", x.slip(clock, 1), 1);
            due("one change", x.count(25), 1);
            due("the other clock", x.count(11 - clock), 0);
            x.pass(1);
            due("lines at 0", x.count(1), clock);
            due("rows at 0", x.count(5), 1 - clock);
            x.pass(1);
            due("lines at 1", x.count(1), 1);
            due("rows at 1", x.count(5), 1);
            x.undo();
            x.undo();
            due("undo", x.undo(), 0);
            due("the clock", x.count(10 + clock), 0);
        }
    }

    @Sentence("the next line comes, or the next row goes out, later.")
    static void promise04AllBehindTheNextOneAreLaterToo() {
        LineDoubler x = new LineDoubler();
        x.slip(0, 4);
        x.slip(1, 3);
        x.pass(15);
        due("lines at 4 and 14", x.count(1), 2);
        due("rows at 3, 8 and 13", x.count(5), 3);
        due("the next line", x.count(10), 24);
        due("the next row", x.count(11), 18);
    }

    @Sentence("`clock`: 0 of the lines that come, 1 of the rows that go out")
    static void promise04ClocksAre0And1() {
        LineDoubler x = new LineDoubler();
        due("-1", x.slip(-1, 5), -2);
        due("0", x.slip(0, 5), 5);
        due("the next line", x.count(10), 5);
        due("1", x.slip(1, 6), 6);
        due("the next row", x.count(11), 6);
        due("2", x.slip(2, 5), -2);
        due("changes", x.count(25), 2);
    }

    @Sentence("`ticks`: 1 to 99")
    static void promise04TicksAre1To99() {
        for (int clock = 0; clock < 2; clock++) {
            LineDoubler x = new LineDoubler();
            due("0", x.slip(clock, 0), -2);
            due("1", x.slip(clock, 1), 1);
            due("99", x.slip(clock, 99), 100);
            due("100", x.slip(clock, 100), -2);
            due("-1", x.slip(clock, -1), -2);
            due("changes", x.count(25), 2);
        }
    }

    @Sentence("Returns the tick at which it comes or goes out then; BAD_VALUE if an argument is out of range.")
    static void promise04ReturnsTheTickOrAnError() {
        LineDoubler x = new LineDoubler();
        x.pass(11);
        due("the line", x.slip(0, 9), 29);
        due("the row", x.slip(1, 9), 24);
        due("again", x.slip(1, 1), 25);
        due("clock", x.slip(HIGH, 1), -2);
        due("clock", x.slip(LOW, 1), -2);
        due("ticks", x.slip(0, HIGH), -2);
        due("ticks", x.slip(0, LOW), -2);
        due("both", x.slip(2, 0), -2);
        due("the line", x.count(10), 29);
        due("the row", x.count(11), 25);
    }

    @Sentence("Returns the tick at which it comes or goes out then;")
    static void promise04TheTickCanBeAbove99999() {
        LineDoubler x = Scenes.at(LAST_TICK);
        due("the line", x.slip(0, 99), 100099);
        due("the row", x.slip(1, 99), 100099);
        due("the line again", x.slip(0, 99), 100198);
    }

    // ---- promise 5: pass

    @Sentence("Lets ticks pass. This is a change.")
    static void promise05IsOneChange() {
        LineDoubler x = new LineDoubler();
        x.pass(999);
        due("one change", x.count(25), 1);
        due("lines", x.count(1), 100);
        due("undo", x.undo(), 0);
        Check.same("as it was", Check.all(x), Check.all(new LineDoubler()));
    }

    @Sentence("Lets ticks pass.")
    static void promise05AtOnceOrTickByTick() {
        LineDoubler x = Scenes.busy();
        LineDoubler y = Scenes.busy();
        x.pass(150);
        for (int tick = 0; tick < 150; tick++) {
            y.pass(1);
        }
        Check.same("tick by tick", Check.seen(y), Check.seen(x));
    }

    @Sentence("`ticks`: 1 to 999")
    static void promise05TicksAre1To999() {
        LineDoubler x = new LineDoubler();
        due("0", x.pass(0), -2);
        due("1", x.pass(1), 1);
        due("999", x.pass(999), 1000);
        due("1000", x.pass(1000), -2);
        due("tick of now", x.count(0), 1000);
        due("changes", x.count(25), 2);
    }

    @Sentence("Returns the tick of now then; BAD_VALUE if ticks is out of range;")
    static void promise05ReturnsTheTickOfNowOrAnError() {
        LineDoubler x = new LineDoubler();
        due("pass(7)", x.pass(7), 7);
        due("pass(8)", x.pass(8), 15);
        due("low", x.pass(LOW), -2);
        due("high", x.pass(HIGH), -2);
        due("-1", x.pass(-1), -2);
        due("tick of now", x.count(0), 15);
    }

    @Sentence("TOO_MANY if it would be above 99999.")
    static void promise05NotAbove99999() {
        LineDoubler x = Scenes.at(LAST_TICK - 999);
        due("999 more", x.pass(999), LAST_TICK);
        due("1 more", x.pass(1), -4);
        due("it stays", x.count(0), LAST_TICK);
        x.undo();
        due("998 more", x.pass(998), LAST_TICK - 1);
        due("2 more", x.pass(2), -4);
        due("it stays", x.count(0), LAST_TICK - 1);
        due("1 more", x.pass(1), LAST_TICK);
        x = Scenes.at(LAST_TICK - 998);
        due("999 more", x.pass(999), -4);
        due("it stays", x.count(0), LAST_TICK - 998);
        due("998 more", x.pass(998), LAST_TICK);
    }

    static void promise05The512thCallAnswersStill() {
        LineDoubler x = new LineDoubler();
        for (int tick = 1; tick <= 512; tick++) {
            due("pass(1)", x.pass(1), tick);
        }
    }

    // ---- promise 6: flush

    @Sentence("Empties the buffer: all waiting lines are skipped. This is a change.")
    static void promise06SkipsAllWaitingLines() {
        for (int lines = 0; lines <= 16; lines++) {
            LineDoubler x = Scenes.filled(16, lines, 0);
            due("flush", x.flush(), lines);
            due("none waits", x.count(2), 0);
            due("place 0", x.waiting(0, 0), -1);
            due("missing", x.count(4), lines);
            for (int missing = 0; missing < Math.min(8, lines); missing++) {
                due("line", x.ofMissing(missing, 1), lines - 1 - missing);
                due("skipped", x.ofMissing(missing, 2), 2);
                due("tick", x.ofMissing(missing, 3), 2 * lines);
            }
            x.undo();
            due("undo", x.count(2), lines);
            due("undo", x.count(4), 0);
        }
    }

    @Sentence("Empties the buffer: all waiting lines are skipped.")
    static void promise06SkipsAlsoTheLineThatWentOutOnce() {
        LineDoubler x = Scenes.filledOnceOut(16, 3, 0);
        due("flush", x.flush(), 3);
        due("missing", x.count(4), 3);
        due("the line 0, too", x.ofMissing(2, 1), 0);
        due("none went out twice", x.count(3), 0);
    }

    @Sentence("This is a change.")
    static void promise06IsAChangeAlsoIfNoneWaits() {
        LineDoubler x = new LineDoubler();
        due("flush", x.flush(), 0);
        due("one change", x.count(25), 1);
        due("flush", x.flush(), 0);
        due("two changes", x.count(25), 2);
    }

    @Sentence("Returns how many.")
    static void promise06ReturnsHowMany() {
        for (int lines : new int[] {0, 1, 15, 16}) {
            LineDoubler x = Scenes.filled(16, lines, 0);
            due("flush", x.flush(), lines);
            due("flush again", x.flush(), 0);
        }
    }
}
