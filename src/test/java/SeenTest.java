/** Promises 7 to 13: waiting, row, ofMissing, count, shown, ratio, fill. */
public final class SeenTest {
    public static void main(String[] args) throws Exception {
        Check.run(SeenTest.class);
    }

    private static void due(String call, long got, long want) {
        Check.due(call, got, want);
    }

    static void promise07Waiting() {
        LineDoubler x = new LineDoubler();
        x.set(LineDoubler.IN, 3);
        x.set(LineDoubler.HEIGHT, 3);
        x.set(LineDoubler.SCROLL, 5);
        x.pass(10);
        // Lines came at 0, 3, 6 and 9; rows went out at 0 and 5.
        due("count", x.count(2), 3);
        int[][] want = {{0, 1, 10, 0}, {0, 2, 20, 0}, {1, 0, 5, 0}};
        for (int place = 0; place < 3; place++) {
            for (int what = 0; what < 4; what++) {
                due("waiting(" + place + ", " + what + ")", x.waiting(place, what), want[place][what]);
            }
        }
        x.pass(1);
        due("out once", x.waiting(0, 3), 1);
        due("the next not", x.waiting(1, 3), 0);
        due("place 3", x.waiting(3, 0), -1);
        due("place -1", x.waiting(-1, 0), -1);
        due("place 3, what 4", x.waiting(3, 4), -1);
        due("what 4", x.waiting(0, 4), -2);
        due("what -1", x.waiting(2, -1), -2);
        due("far", x.waiting(Integer.MAX_VALUE, 0), -1);
        due("far", x.waiting(Integer.MIN_VALUE, 0), -1);
        due("far", x.waiting(0, Integer.MAX_VALUE), -2);
        due("far", x.waiting(0, Integer.MIN_VALUE), -2);
    }

    static void promise07WaitingInTheLastPlace() {
        LineDoubler x = new LineDoubler();
        x.set(LineDoubler.ROOM, 16);
        x.set(LineDoubler.HEIGHT, 16);
        x.set(LineDoubler.IN, 2);
        x.slip(1, 99);
        x.pass(40);
        due("waiting", x.count(2), 16);
        due("place 15", x.waiting(15, 1), 15);
        due("place 15", x.waiting(15, 2), 150);
        due("place 16", x.waiting(16, 0), -1);
    }

    static void promise08Row() {
        LineDoubler x = new LineDoubler();
        x.set(LineDoubler.HEIGHT, 2);
        x.value(0, 77);
        x.pass(11);
        due("row(0, 0)", x.row(0, 0), 77);
        due("row(0, 1)", x.row(0, 1), 0);
        due("row(0, 2)", x.row(0, 2), 0);
        due("row(2, 0)", x.row(2, 0), 10);
        due("row(2, 2)", x.row(2, 2), 1);
        for (int what = 0; what < 3; what++) {
            due("never", x.row(3, what), -6);
        }
        due("row 4", x.row(4, 0), -1);
        due("row -1", x.row(-1, 0), -1);
        due("row 4, what 3", x.row(4, 3), -1);
        due("what 3", x.row(0, 3), -2);
        due("what -1", x.row(0, -1), -2);
        due("what 3, never", x.row(3, 3), -2);
        due("far", x.row(Integer.MAX_VALUE, 0), -1);
        due("far", x.row(Integer.MIN_VALUE, 0), -1);
        due("far", x.row(0, Integer.MIN_VALUE), -2);
        x.slip(0, 30);
        x.pass(20);
        due("it is empty now", x.row(0, 0), 255);
        due("it is empty now", x.row(0, 1), -6);
        due("it is empty now", x.row(0, 2), -6);
    }

    static void promise08RowsOfTheHighestScreen() {
        LineDoubler x = new LineDoubler();
        x.set(LineDoubler.HEIGHT, 16);
        x.pass(156);
        due("row 31", x.row(31, 2), 15);
        due("row 31", x.row(31, 0), 150);
        due("row 32", x.row(32, 0), -1);
        due("clean", x.count(15), 0);
        x.pass(9);
        due("row 0 of the next", x.row(0, 1), 1);
        due("row 31 still", x.row(31, 1), 0);
    }

    static void promise09OfMissing() {
        LineDoubler x = new LineDoubler();
        x.slip(1, 99);
        x.set(LineDoubler.IN, 2);
        x.pass(9);
        due("one", x.ofMissing(0, 3), 8);
        due("not two", x.ofMissing(1, 3), -1);
        x.pass(14);
        // At 8, 10, .. 22 there was no room.
        due("eight", x.count(4), 8);
        due("the eighth", x.ofMissing(7, 3), 8);
        x.pass(2);
        due("nine", x.count(4), 9);
        due("the eighth", x.ofMissing(7, 3), 10);
        due("the latest", x.ofMissing(0, 3), 24);
        due("the latest", x.ofMissing(0, 0), 3);
        due("the latest", x.ofMissing(0, 1), 0);
        due("the latest", x.ofMissing(0, 2), 0);
        due("the one before", x.ofMissing(1, 1), 3);
        due("8", x.ofMissing(8, 0), -1);
        due("-1", x.ofMissing(-1, 0), -1);
        due("8, 4", x.ofMissing(8, 4), -1);
        due("what 4", x.ofMissing(0, 4), -2);
        due("what -1", x.ofMissing(7, -1), -2);
        due("far", x.ofMissing(Integer.MAX_VALUE, 0), -1);
        due("far", x.ofMissing(Integer.MIN_VALUE, 0), -1);
        due("far", x.ofMissing(0, Integer.MAX_VALUE), -2);
    }

    static void promise09TheThreeReasons() {
        LineDoubler x = new LineDoubler();
        x.slip(1, 99);
        x.set(LineDoubler.IN, 2);
        x.pass(9);
        x.set(LineDoubler.DROP, 1);
        x.pass(2);
        x.flush();
        due("skipped", x.ofMissing(0, 2), 2);
        due("skipped", x.ofMissing(3, 2), 2);
        due("dropped", x.ofMissing(4, 2), 1);
        due("dropped", x.ofMissing(4, 1), 0);
        due("no room", x.ofMissing(5, 2), 0);
        due("no room", x.ofMissing(5, 0), 1);
        due("no more", x.ofMissing(6, 2), -1);
    }

    static void promise10Count() {
        LineDoubler x = new LineDoubler();
        x.set(LineDoubler.IN, 7);
        x.set(LineDoubler.OUT, 3);
        x.set(LineDoubler.ROOM, 2);
        x.set(LineDoubler.HEIGHT, 3);
        x.set(LineDoubler.SCROLL, 9);
        Check.type(x, "i5;");
        x.pass(50);
        // Lines at 0, 7, .. 49; rows at 0, 3, .. 48.
        due("tick of now", x.count(0), 50);
        due("came", x.count(1), 8);
        due("rows", x.count(5), 17);
        due("next row", x.count(7), 17 % 6);
        due("next line", x.count(8), 8 % 3);
        due("its picture", x.count(9), 2);
        due("next line comes", x.count(10), 56);
        due("next row goes", x.count(11), 51);
        int[] settings = {7, 3, 2, 3, 0, 0, 255, 9};
        for (int setting = 0; setting < 8; setting++) {
            due("setting", x.count(16 + setting), settings[setting]);
        }
        due("pad", x.count(24), 3);
        due("history", x.count(25), 6);
        due("rows add up", 2 * x.count(3) + (x.count(2) > 0 && x.waiting(0, 3) == 1 ? 1 : 0) + x.count(6), 17);
        due("lines add up", x.count(2) + x.count(3) + x.count(4), 8);
        due("screens add up", x.count(12) + x.count(13) + x.count(14), 2);
    }

    static void promise10CountRefusesOthers() {
        LineDoubler x = new LineDoubler();
        due("-1", x.count(-1), -2);
        due("26", x.count(26), -2);
        due("min", x.count(Integer.MIN_VALUE), -2);
        due("max", x.count(Integer.MAX_VALUE), -2);
    }

    static void promise11Shown() {
        LineDoubler x = new LineDoubler();
        x.set(LineDoubler.HEIGHT, 2);
        for (int rows = 0; rows < 4; rows++) {
            due("shown", x.shown(), rows);
            x.pass(rows == 0 ? 1 : 5);
        }
        due("all", x.shown(), 4);
        x.slip(0, 20);
        // The next line comes at 40; the rows of the next screen go out at 20, 25, 30 and 35.
        x.pass(5);
        due("the first one is empty", x.shown(), 0);
        x.pass(19);
        due("still", x.shown(), 0);
        x.pass(1);
        due("the first one", x.shown(), 1);
        x.pass(5);
        due("the first two", x.shown(), 2);
        x.pass(10);
        due("all", x.shown(), 4);
    }

    static void promise11ShownEndsAtAnEmptyRow() {
        LineDoubler x = new LineDoubler();
        x.set(LineDoubler.IN, 15);
        x.pass(16);
        // Rows at 0, 5 (the line 0), 10 (empty), 15 (the line 1).
        due("shown", x.shown(), 2);
        due("row 3", x.row(3, 2), 1);
    }

    static void promise12Ratio() {
        for (int in = 2; in <= 99; in++) {
            LineDoubler x = new LineDoubler();
            x.set(LineDoubler.IN, in);
            for (int out = 1; out <= 99; out++) {
                x.set(LineDoubler.OUT, out);
                due("ratio " + in + "/" + out, x.ratio(), Float.floatToIntBits((float) ((double) in / (2 * out))));
            }
        }
    }

    static void promise13Fill() {
        LineDoubler x = new LineDoubler();
        due("no tick", x.fill(), 0);
        x.slip(0, 1);
        x.pass(1);
        due("no line", x.fill(), 0);
        x.pass(1);
        due("half", x.fill(), Double.doubleToLongBits(1.0 / 2));
        x.pass(1);
        due("two thirds", x.fill(), Double.doubleToLongBits(2.0 / 3));
        // Rows go out at 0 (empty), 5, 10: the line goes out once at 5, twice at 10; the next one comes at 11.
        x.pass(7);
        due("ten ticks", x.fill(), Double.doubleToLongBits(9.0 / 10));
        x.pass(1);
        due("eleven ticks", x.fill(), Double.doubleToLongBits(9.0 / 11));
    }

    static void promise13FillBitForBit() {
        for (int in = 2; in <= 17; in++) {
            LineDoubler x = new LineDoubler();
            x.set(LineDoubler.ROOM, 16);
            x.set(LineDoubler.IN, in);
            long sum = 0;
            for (int tick = 0; tick < 160; tick++) {
                if (tick == 80) {
                    x.set(LineDoubler.OUT, 3);
                }
                x.pass(1);
                sum += x.count(2);
                due("fill", x.fill(), Double.doubleToLongBits((double) sum / (tick + 1)));
            }
        }
    }

    static void promise13FillDoesNotHangOnHowTimePasses() {
        LineDoubler x = new LineDoubler();
        LineDoubler y = new LineDoubler();
        for (int i = 0; i < 97; i++) {
            x.pass(10);
        }
        y.pass(970);
        Check.same("at once", Check.seen(y), Check.seen(x));
    }
}
