import java.util.function.Supplier;
import java.util.function.ToIntFunction;

/** Each error code of each method: a refused call changes nothing, and the error named first is returned. */
public final class ErrorsTest {
    private static final int LOW = Integer.MIN_VALUE, HIGH = Integer.MAX_VALUE;
    private static final int[] LEAST = {2, 1, 1, 2, 0, 0, 0, 0};
    private static final int[] MOST = {99, 99, 16, 16, 1, 1, 255, 255};
    private static final int LAST_TICK = 99999;

    public static void main(String[] args) throws Exception {
        Check.run(ErrorsTest.class);
    }

    private static void due(String call, long got, long want) {
        Check.due(call, got, want);
    }

    private static void refuse(String call, int error, ToIntFunction<LineDoubler> refused) {
        Twins.refuse(call, Scenes::busy, refused, error);
    }

    /** A call that returns something about what there is: refused in a busy object, and in a new one. */
    private static void refuseAnywhere(String call, int error, ToIntFunction<LineDoubler> refused) {
        refuse(call, error, refused);
        Twins.refuse(call + " of a new object", LineDoubler::new, refused, error);
    }

    private static LineDoubler full() {
        LineDoubler x = Scenes.filled(16, 16, 0);
        x.save(1);
        Check.type(x, "t1;o2");
        return x;
    }

    private static LineDoubler nearTheEnd(int tick) {
        LineDoubler x = new LineDoubler();
        x.set(LineDoubler.HEIGHT, 2);
        x.save(0);
        Scenes.passAll(x, tick);
        Check.type(x, "<9");
        return x;
    }

    /** With something in the slot 0 and on the pad, and without a state that could be undone. */
    private static LineDoubler withoutHistory() {
        LineDoubler x = new LineDoubler();
        x.pass(9);
        x.save(0);
        x.undo();
        Check.type(x, "i3");
        return x;
    }

    static void theBusyObjectHasSomethingEverywhere() {
        LineDoubler x = Scenes.busy();
        boolean[] whys = new boolean[3];
        for (int missing = 0; missing < 8; missing++) {
            int why = x.ofMissing(missing, 2);
            if (why >= 0) {
                whys[why] = true;
            }
        }
        due("a line that was dropped", whys[1] ? 1 : 0, 1);
        due("a line that was skipped", whys[2] ? 1 : 0, 1);
        due("lines wait", x.count(2) > 1 ? 1 : 0, 1);
        due("screens", x.count(12) + x.count(13) + x.count(14) > 2 ? 1 : 0, 1);
        due("history", x.count(25), 6);
        due("pad", x.count(24), 5);
        due("fault", x.fault(), -6);
        due("slot 0", x.restore(0), 17);
        due("slot 1", x.restore(1), 56);
    }

    static void promise02BadValueForNoSuchSettingChangesNothing() {
        for (int setting : new int[] {-1, 8, LOW, HIGH}) {
            refuse("set(" + setting + ", 1)", -2, x -> x.set(setting, 1));
        }
    }

    static void promise02BadValueForAValueOutOfRangeChangesNothing() {
        for (int setting = 0; setting < 8; setting++) {
            int chosen = setting;
            for (int value : new int[] {LEAST[setting] - 1, MOST[setting] + 1, LOW, HIGH}) {
                refuse("set(" + setting + ", " + value + ")", -2, x -> x.set(chosen, value));
            }
        }
    }

    static void promise02NotPossibleHeightChangesNothing() {
        for (int value : new int[] {2, 3, 16}) {
            refuse("set(3, " + value + ")", -5, x -> x.set(LineDoubler.HEIGHT, value));
        }
    }

    static void promise02NotPossibleRoomChangesNothing() {
        refuse("set(2, 1)", -5, x -> x.set(LineDoubler.ROOM, 1));
        Twins.refuse("set(2, 15)", ErrorsTest::full, x -> x.set(LineDoubler.ROOM, 15), -5);
        Twins.refuse("set(2, 1)", ErrorsTest::full, x -> x.set(LineDoubler.ROOM, 1), -5);
    }

    static void promise02BadValueIsAheadOfNotPossible() {
        refuse("set(3, 1) behind the tick 0", -2, x -> x.set(LineDoubler.HEIGHT, 1));
        refuse("set(3, 17) behind the tick 0", -2, x -> x.set(LineDoubler.HEIGHT, 17));
        Twins.refuse("set(2, 0), lines wait", ErrorsTest::full, x -> x.set(LineDoubler.ROOM, 0), -2);
        Twins.refuse("set(2, -1), lines wait", ErrorsTest::full, x -> x.set(LineDoubler.ROOM, -1), -2);
    }

    static void promise03NoSuchLineChangesNothing() {
        for (int line : new int[] {-1, 16, LOW, HIGH}) {
            refuse("value(" + line + ", 5)", -1, x -> x.value(line, 5));
        }
    }

    static void promise03BadValueChangesNothing() {
        for (int value : new int[] {-1, 256, LOW, HIGH}) {
            refuse("value(0, " + value + ")", -2, x -> x.value(0, value));
            refuse("value(15, " + value + ")", -2, x -> x.value(15, value));
        }
    }

    static void promise03NoSuchLineIsAheadOfBadValue() {
        refuse("value(16, 256)", -1, x -> x.value(16, 256));
        refuse("value(-1, -1)", -1, x -> x.value(-1, -1));
    }

    static void promise04BadValueForTheClockChangesNothing() {
        for (int clock : new int[] {-1, 2, LOW, HIGH}) {
            refuse("slip(" + clock + ", 1)", -2, x -> x.slip(clock, 1));
        }
    }

    static void promise04BadValueForTheTicksChangesNothing() {
        for (int ticks : new int[] {0, 100, -1, LOW, HIGH}) {
            refuse("slip(0, " + ticks + ")", -2, x -> x.slip(0, ticks));
            refuse("slip(1, " + ticks + ")", -2, x -> x.slip(1, ticks));
        }
    }

    static void promise05BadValueChangesNothing() {
        for (int ticks : new int[] {0, 1000, -1, LOW, HIGH}) {
            refuse("pass(" + ticks + ")", -2, x -> x.pass(ticks));
        }
    }

    static void promise05TooManyChangesNothing() {
        int[][] calls = {{LAST_TICK, 1}, {LAST_TICK, 999}, {LAST_TICK - 1, 2}, {LAST_TICK - 998, 999}};
        for (int[] call : calls) {
            Twins.refuse("pass(" + call[1] + ") at " + call[0], () -> nearTheEnd(call[0]), x -> x.pass(call[1]), -4);
        }
    }

    static void promise05BadValueIsAheadOfTooMany() {
        for (int ticks : new int[] {1000, 0, HIGH, LOW}) {
            Twins.refuse("pass(" + ticks + ")", () -> nearTheEnd(LAST_TICK), x -> x.pass(ticks), -2);
        }
    }

    static void promise07NoSuchLineChangesNothing() {
        for (int place : new int[] {-1, 5, 16, LOW, HIGH}) {
            refuseAnywhere("waiting(" + place + ", 0)", -1, x -> x.waiting(place, 0));
        }
    }

    static void promise07BadValueChangesNothing() {
        for (int what : new int[] {-1, 4, LOW, HIGH}) {
            refuse("waiting(0, " + what + ")", -2, x -> x.waiting(0, what));
        }
    }

    static void promise07NoSuchLineIsAheadOfBadValue() {
        refuseAnywhere("waiting(5, 4)", -1, x -> x.waiting(5, 4));
        refuseAnywhere("waiting(-1, -1)", -1, x -> x.waiting(-1, -1));
    }

    static void promise08NoSuchRowChangesNothing() {
        refuse("row(4, 0)", -1, x -> x.row(4, 0));
        for (int row : new int[] {-1, 8, 32, LOW, HIGH}) {
            refuseAnywhere("row(" + row + ", 0)", -1, x -> x.row(row, 0));
        }
    }

    static void promise08BadValueChangesNothing() {
        for (int what : new int[] {-1, 3, LOW, HIGH}) {
            refuseAnywhere("row(0, " + what + ")", -2, x -> x.row(0, what));
        }
    }

    static void promise08NoSuchRowIsAheadOfBadValue() {
        refuse("row(4, 3)", -1, x -> x.row(4, 3));
        refuseAnywhere("row(8, 3)", -1, x -> x.row(8, 3));
        refuseAnywhere("row(-1, -1)", -1, x -> x.row(-1, -1));
    }

    static void promise08BadValueIsAheadOfNone() {
        LineDoubler x = new LineDoubler();
        due("never gone out", x.row(7, 2), -6);
        due("and what is 3", x.row(7, 3), -2);
        due("and what is -1", x.row(7, -1), -2);
        Scenes.stop(x, 0);
        x.pass(1);
        due("empty", x.row(0, 1), -6);
        due("empty, and what is 3", x.row(0, 3), -2);
    }

    static void promise09NoSuchOneChangesNothing() {
        for (int missing : new int[] {-1, 8, LOW, HIGH}) {
            refuseAnywhere("ofMissing(" + missing + ", 0)", -1, x -> x.ofMissing(missing, 0));
        }
        Twins.refuse("ofMissing(0, 0)", LineDoubler::new, x -> x.ofMissing(0, 0), -1);
    }

    static void promise09BadValueChangesNothing() {
        for (int what : new int[] {-1, 4, LOW, HIGH}) {
            refuse("ofMissing(0, " + what + ")", -2, x -> x.ofMissing(0, what));
        }
    }

    static void promise09NoSuchOneIsAheadOfBadValue() {
        refuseAnywhere("ofMissing(8, 4)", -1, x -> x.ofMissing(8, 4));
        refuseAnywhere("ofMissing(-1, -1)", -1, x -> x.ofMissing(-1, -1));
        Twins.refuse("ofMissing(0, 4)", LineDoubler::new, x -> x.ofMissing(0, 4), -1);
    }

    static void promise10BadValueChangesNothing() {
        for (int what : new int[] {-1, 26, LOW, HIGH}) {
            refuseAnywhere("count(" + what + ")", -2, x -> x.count(what));
        }
    }

    static void promise14BadValueChangesNothing() {
        for (int ticks : new int[] {0, 1000, -1, LOW, HIGH}) {
            refuse("would(" + ticks + ", 0)", -2, x -> x.would(ticks, 0));
        }
        for (int what : new int[] {-1, 3, LOW, HIGH}) {
            refuse("would(1, " + what + ")", -2, x -> x.would(1, what));
        }
        refuse("would(0, 3)", -2, x -> x.would(0, 3));
    }

    static void promise15BadValueChangesNothing() {
        for (int ticks : new int[] {0, 1000, -1, LOW, HIGH}) {
            refuse("leastRoom(" + ticks + ")", -2, x -> x.leastRoom(ticks));
        }
    }

    static void promise15BadValueIsAheadOfNone() {
        Supplier<LineDoubler> over = () -> {
            LineDoubler x = Scenes.filled(16, 16, 0);
            Scenes.stop(x, 1);
            return x;
        };
        due("no room is enough", over.get().leastRoom(999), -6);
        Twins.refuse("leastRoom(1000)", over, x -> x.leastRoom(1000), -2);
    }

    static void promise16BadValueChangesNothing() {
        for (int ticks : new int[] {0, 1000, -1, LOW, HIGH}) {
            refuse("bestOut(" + ticks + ", 0)", -2, x -> x.bestOut(ticks, 0));
        }
        for (int what : new int[] {-1, 2, LOW, HIGH}) {
            refuse("bestOut(1, " + what + ")", -2, x -> x.bestOut(1, what));
        }
        refuse("bestOut(0, 2)", -2, x -> x.bestOut(0, 2));
    }

    static void promise17BadValueChangesNothing() {
        long[] wrong = {0, 1, 31, 32, 127, 128, 255, -1, Long.MIN_VALUE, Long.MAX_VALUE, 0x4100, 0x410041, 0x6920, 0x2069,
            0x7f69, 0x697f, 0x0100000000000069L, 0x2069696969696969L, 0x7f69696969696969L};
        for (long characters : wrong) {
            refuse("put(" + characters + ")", -2, x -> x.put(characters));
        }
    }

    static void promise17TooManyChangesNothing() {
        Twins.refuse("1 more than 80", () -> Scenes.padOf(80), x -> x.put('t'), -4);
        Twins.refuse("8 more than 80", () -> Scenes.padOf(80), x -> x.put(Check.packed("t1;t1;t1")), -4);
        Twins.refuse("2 more than 79", () -> Scenes.padOf(79), x -> x.put(Check.packed("t1")), -4);
        Twins.refuse("8 more than 73", () -> Scenes.padOf(73), x -> x.put(Check.packed("1;t1;t11")), -4);
    }

    static void promise17BadValueIsAheadOfTooMany() {
        long[] wrong = {0, 32, 127, -1, 0x410041, 0x2069696969696969L};
        for (long characters : wrong) {
            Twins.refuse("put(" + characters + ")", () -> Scenes.padOf(80), x -> x.put(characters), -2);
        }
    }

    static void promise20BadTextChangesNothing() {
        String[] texts = {"", "x", "t5;", "t5;t05", "v3", "i5;v3=1000", "o9;o"};
        for (String text : texts) {
            Twins.refuse("carryOut of " + text, () -> {
                LineDoubler x = Scenes.busy();
                x.wipe();
                Check.type(x, text);
                return x;
            }, LineDoubler::carryOut, -3);
        }
    }

    static void promise20BadTextIsAheadOfTheErrorsOfItsOrders() {
        String[] texts = {"t0;x", "t5;i100;", "v16=0;v", "<0;>0;i1;1"};
        for (String text : texts) {
            Twins.refuse("carryOut of " + text, () -> {
                LineDoubler x = new LineDoubler();
                Check.type(x, text);
                return x;
            }, LineDoubler::carryOut, -3);
        }
    }

    static void promise21NotPossibleChangesNothing() {
        Twins.refuse("undo", ErrorsTest::withoutHistory, LineDoubler::undo, -5);
        Twins.refuse("undo of a new object", LineDoubler::new, LineDoubler::undo, -5);
    }

    static void promise22BadValueChangesNothing() {
        for (int slot : new int[] {-1, 2, LOW, HIGH}) {
            refuse("save(" + slot + ")", -2, x -> x.save(slot));
        }
    }

    static void promise23BadValueChangesNothing() {
        for (int slot : new int[] {-1, 2, LOW, HIGH}) {
            refuse("restore(" + slot + ")", -2, x -> x.restore(slot));
        }
    }

    static void promise23NotPossibleChangesNothing() {
        Twins.refuse("restore(1)", ErrorsTest::withoutHistory, x -> x.restore(1), -5);
        Twins.refuse("restore(0)", ErrorsTest::full, x -> x.restore(0), -5);
        Twins.refuse("restore(0) of a new object", LineDoubler::new, x -> x.restore(0), -5);
    }
}
