/** The objects with which the tests at the edges begin. */
final class Scenes {
    /** No line comes, or no row goes out, for at least so many ticks when a clock is stopped. */
    static final int STILL = 1089;

    private Scenes() {
    }

    static void passAll(LineDoubler x, int ticks) {
        for (int left = ticks; left > 0; left -= 999) {
            x.pass(Math.min(999, left));
        }
    }

    static LineDoubler at(int tick) {
        LineDoubler x = new LineDoubler();
        passAll(x, tick);
        return x;
    }

    /** Lets a clock slip so far that nothing comes, or goes out, in the next 999 ticks. */
    static void stop(LineDoubler x, int clock) {
        for (int slips = 0; slips < 11; slips++) {
            x.slip(clock, 99);
        }
    }

    /**
     * The lines 0, 1, .. of pictures of 16 lines came at the ticks 0, 2, ..; the next one comes in the tick of now. All
     * of them wait, and no row has gone out; the first one goes out at the tick 99.
     */
    static LineDoubler filled(int room, int lines, int drop) {
        LineDoubler x = new LineDoubler();
        x.slip(1, 99);
        fill(x, room, lines, drop);
        return x;
    }

    /** As before, but the line 0 has gone out once, in the row 0; the next row goes out at the tick 99. */
    static LineDoubler filledOnceOut(int room, int lines, int drop) {
        LineDoubler x = new LineDoubler();
        x.set(LineDoubler.OUT, 99);
        fill(x, room, lines, drop);
        return x;
    }

    private static void fill(LineDoubler x, int room, int lines, int drop) {
        x.set(LineDoubler.ROOM, room);
        x.set(LineDoubler.HEIGHT, 16);
        x.set(LineDoubler.IN, 2);
        x.set(LineDoubler.DROP, drop);
        passAll(x, 2 * lines);
    }

    /** Pictures of 2 lines, a line every 2 ticks; the first row goes out in a tick. */
    static LineDoubler quick(int firstRow, int sync) {
        LineDoubler x = new LineDoubler();
        x.set(LineDoubler.HEIGHT, 2);
        x.set(LineDoubler.IN, 2);
        x.set(LineDoubler.ROOM, 16);
        x.set(LineDoubler.SYNC, sync);
        if (firstRow > 0) {
            x.slip(1, firstRow);
        }
        return x;
    }

    /** An object with something everywhere: missing lines of each kind, six states, both slots, a text on the pad. */
    static LineDoubler busy() {
        LineDoubler x = new LineDoubler();
        x.set(LineDoubler.HEIGHT, 2);
        x.set(LineDoubler.IN, 3);
        x.value(1, 111);
        x.pass(17);
        x.save(0);
        x.set(LineDoubler.DROP, 1);
        x.set(LineDoubler.ROOM, 5);
        x.pass(23);
        x.set(LineDoubler.SYNC, 1);
        x.pass(16);
        x.save(1);
        x.value(0, 200);
        x.set(LineDoubler.SCROLL, 3);
        x.set(LineDoubler.COLOUR, 77);
        x.slip(0, 2);
        x.slip(1, 1);
        x.pass(13);
        Check.type(x, "o7;t3");
        return x;
    }

    /** A pad with so many characters, and a text without a fault if there are 2, 5, 8, .. of them. */
    static LineDoubler padOf(int characters) {
        LineDoubler x = new LineDoubler();
        StringBuilder text = new StringBuilder();
        while (text.length() < characters) {
            text.append("t1;");
        }
        Check.type(x, text.substring(0, characters));
        return x;
    }
}
