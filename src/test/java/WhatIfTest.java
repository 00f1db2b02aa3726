/** Promises 14 to 16: would, leastRoom, bestOut. */
public final class WhatIfTest {
    public static void main(String[] args) throws Exception {
        Check.run(WhatIfTest.class);
    }

    private static void due(String call, long got, long want) {
        Check.due(call, got, want);
    }

    private static final int SOME = 24;

    /** One of some objects in the midst of a run. */
    private static LineDoubler some(int i) {
        LineDoubler x = new LineDoubler();
        x.set(LineDoubler.HEIGHT, 2 + i % 5);
        x.set(LineDoubler.IN, 2 + i * 7 % 23);
        x.set(LineDoubler.OUT, 1 + i * 5 % 11);
        x.set(LineDoubler.ROOM, 1 + i * 3 % 7);
        x.set(LineDoubler.DROP, i / 2 % 2);
        x.set(LineDoubler.SYNC, i % 2);
        x.slip(i % 2, 1 + i * 3);
        x.pass(1 + 41 * i);
        return x;
    }

    private static int passed(LineDoubler x, int ticks, int count) {
        int before = x.count(count);
        x.pass(ticks);
        int gain = x.count(count) - before;
        x.undo();
        return gain;
    }

    static void promise14WouldIsWhatPassBrings() {
        int[] counts = {4, 6, 12};
        for (int i = 0; i < SOME; i++) {
            for (int ticks = 1; ticks < 999; ticks += 83) {
                for (int what = 0; what < 3; what++) {
                    LineDoubler x = some(i);
                    String before = Check.all(x);
                    int would = x.would(ticks, what);
                    Check.same("nothing changes", Check.all(x), before);
                    due("would(" + ticks + ", " + what + ")", would, passed(x, ticks, counts[what]));
                }
            }
        }
    }

    static void promise14WouldRanges() {
        LineDoubler x = new LineDoubler();
        int[][] wrong = {{0, 0}, {-1, 0}, {1000, 0}, {1, -1}, {1, 3}, {Integer.MAX_VALUE, 0}, {Integer.MIN_VALUE, 1},
            {5, Integer.MAX_VALUE}, {5, Integer.MIN_VALUE}, {0, 3}};
        for (int[] call : wrong) {
            due("would(" + call[0] + ", " + call[1] + ")", x.would(call[0], call[1]), -2);
        }
        due("clean", x.would(999, 2), 25);
        due("clean", x.would(36, 2), 1);
        due("not clean yet", x.would(35, 2), 0);
        due("missing", x.would(999, 0), 0);
        x.slip(0, 99);
        due("empty", x.would(1, 1), 1);
        due("empty", x.would(99, 1), 20);
        due("empty", x.would(999, 1), 20);
    }

    static void promise14WouldGoesOnBehindTheLastTick() {
        LineDoubler x = new LineDoubler();
        for (int i = 0; i < 100; i++) {
            x.pass(999);
        }
        x.pass(99);
        due("at the end", x.count(0), 99999);
        due("clean", x.would(999, 2), 25);
        x.slip(0, 98);
        due("empty", x.would(99, 1), 20);
        due("room", x.leastRoom(999), 1);
        due("out", x.bestOut(999, 1) >= 0 ? 1 : 0, 1);
    }

    static void promise15LeastRoomIsTheLeast() {
        for (int i = 0; i < SOME; i++) {
            for (int ticks = 1; ticks < 999; ticks += 131) {
                LineDoubler x = some(i);
                int want = -6;
                for (int room = 16; room >= Math.max(1, x.count(2)); room--) {
                    x.set(LineDoubler.ROOM, room);
                    if (passed(x, ticks, 4) == 0) {
                        want = room;
                    }
                    x.undo();
                }
                String before = Check.all(x);
                due("leastRoom(" + ticks + ")", x.leastRoom(ticks), want);
                Check.same("nothing changes", Check.all(x), before);
            }
        }
    }

    static void promise15LeastRoomRangesAndEdges() {
        LineDoubler x = new LineDoubler();
        due("0", x.leastRoom(0), -2);
        due("1000", x.leastRoom(1000), -2);
        due("-1", x.leastRoom(-1), -2);
        due("max", x.leastRoom(Integer.MAX_VALUE), -2);
        due("min", x.leastRoom(Integer.MIN_VALUE), -2);
        due("one is enough", x.leastRoom(999), 1);
        x.set(LineDoubler.IN, 2);
        x.slip(1, 99);
        // Lines come at 0, 2, 4, ..: n of them in the first 2 * n - 1 ticks.
        due("1", x.leastRoom(2), 1);
        due("2", x.leastRoom(3), 2);
        due("16", x.leastRoom(31), 16);
        due("16", x.leastRoom(32), 16);
        due("none", x.leastRoom(33), -6);
        x.pass(7);
        due("not less than wait", x.leastRoom(1), 4);
        x.set(LineDoubler.SYNC, 1);
        x.flush();
        x.slip(0, 99);
        due("none waits", x.leastRoom(50), 1);
    }

    static void promise15SkippedLinesAreMissingToo() {
        LineDoubler x = new LineDoubler();
        x.slip(1, 30);
        x.pass(1);
        x.flush();
        x.set(LineDoubler.SYNC, 1);
        // The lines 1 to 3 wait when the first row goes out at 30, and are skipped, whatever the room.
        due("none", x.leastRoom(31), -6);
        due("before", x.leastRoom(29), 2);
    }

    static void promise16BestOutIsTheBest() {
        for (int i = 0; i < SOME; i++) {
            for (int ticks = 1; ticks < 999; ticks += 331) {
                int best = 0;
                int fewest = Integer.MAX_VALUE;
                for (int out = 1; out <= 99; out++) {
                    LineDoubler y = some(i);
                    y.set(LineDoubler.OUT, out);
                    int faults = passed(y, ticks, 4) + passed(y, ticks, 6);
                    if (faults < fewest) {
                        best = out;
                        fewest = faults;
                    }
                }
                LineDoubler x = some(i);
                String before = Check.all(x);
                due("bestOut(" + ticks + ", 0)", x.bestOut(ticks, 0), best);
                due("bestOut(" + ticks + ", 1)", x.bestOut(ticks, 1), fewest);
                Check.same("nothing changes", Check.all(x), before);
            }
        }
    }

    static void promise16BestOutRangesAndEdges() {
        LineDoubler x = new LineDoubler();
        int[][] wrong = {{0, 0}, {1000, 0}, {-5, 1}, {1, 2}, {1, -1}, {Integer.MAX_VALUE, 1}, {Integer.MIN_VALUE, 0},
            {7, Integer.MAX_VALUE}, {7, Integer.MIN_VALUE}};
        for (int[] call : wrong) {
            due("bestOut(" + call[0] + ", " + call[1] + ")", x.bestOut(call[0], call[1]), -2);
        }
        due("the least of all", x.bestOut(1, 0), 1);
        due("none", x.bestOut(1, 1), 0);
        due("the period that fits", x.bestOut(999, 0), 5);
        due("none", x.bestOut(999, 1), 0);
        x.set(LineDoubler.IN, 99);
        x.set(LineDoubler.HEIGHT, 16);
        due("a long one", x.bestOut(999, 0), 50);
        x.set(LineDoubler.IN, 2);
        due("a short one", x.bestOut(999, 0), 1);
        due("out stays", x.count(17), 5);
    }

    static void promise16BestOutUpTo99() {
        LineDoubler x = new LineDoubler();
        x.slip(0, 99);
        x.slip(0, 99);
        // No line comes: each row that goes out in the ticks 0 to ticks - 1 is empty.
        due("only the first row", x.bestOut(99, 0), 99);
        due("only the first row", x.bestOut(99, 1), 1);
        due("two rows at least", x.bestOut(100, 0), 50);
        due("two rows at least", x.bestOut(100, 1), 2);
    }
}
