import java.util.Random;

/** Runs of up to 512 calls, the same ones in each test run, on a LineDoubler and on the SlowModel: all promises together. */
public final class RandomRunsTest {
    private static final int RUNS = Integer.getInteger("runs", 3000);
    // An object is good for 512 calls; the look at all of it behind the last one of these takes up to 250 calls.
    private static final int CALLS = 250;
    private static final int[][] RANGES = {{2, 99}, {1, 99}, {1, 16}, {2, 16}, {0, 1}, {0, 1}, {0, 255}, {0, 255}};
    private static final String[] PIECES = {"i", "o", "v", "t", "<", ">", ";", "=", "0", "9", "25", "t9", "v3=7", ";i4", ";o2",
        ";t30", "i5;t7", "<8;", ">3;", "o1;", "999", "x", "v15=99;t88", "v0=0", ";>1;<1"};

    private final Random random;
    private final LineDoubler x = new LineDoubler();
    private final SlowModel model = new SlowModel();
    // How often a call is given arguments from anywhere, in 100.
    private final int wild;
    // How quick the clocks are that a run likes, and how far it lets time go.
    private final int slow;
    private final int far;
    private int calls;

    private RandomRunsTest(long seed) {
        random = new Random(seed);
        wild = random.nextInt(3) * 6;
        slow = 1 + random.nextInt(25);
        far = random.nextInt(4) == 0 ? 999 : 1 + random.nextInt(120);
    }

    public static void main(String[] args) throws Exception {
        Check.run(RandomRunsTest.class);
    }

    static void promises01To23InRandomRuns() {
        for (int run = 0; run < RUNS && !Check.failed(); run++) {
            new RandomRunsTest(run).play(run);
        }
    }

    private void play(int run) {
        // The first calls choose a height; it can change only while no tick has passed.
        if (random.nextInt(4) > 0) {
            compare(run, -1, 5);
        }
        // A few runs begin where time ends.
        for (int passes = 0; run % 40 == 0 && passes < 100; passes++) {
            due(run, -1, "pass(999)", x.pass(999), model.pass(999));
        }
        for (int call = 0; calls < CALLS && !Check.failed(); call++) {
            compare(run, call, random.nextInt(64));
        }
        lookAtAll(run, CALLS);
    }

    private int pick(int least, int most) {
        if (random.nextInt(100) < wild) {
            int[] odd = {least - 1, most + 1, Integer.MIN_VALUE, Integer.MAX_VALUE, random.nextInt(), -random.nextInt(300),
                random.nextInt(2000)};
            return odd[random.nextInt(odd.length)];
        }
        if (random.nextInt(12) == 0) {
            return random.nextBoolean() ? least : most;
        }
        return least + random.nextInt(most - least + 1);
    }

    private void due(int run, int call, String what, long got, long want) {
        calls++;
        if (got != want) {
            Check.due("run " + run + ", call " + call + ": " + what, got, want);
        }
    }

    private void compare(int run, int call, int kind) {
        if (kind < 16) {
            change(run, call, kind);
        } else if (kind < 28) {
            texts(run, call, kind);
        } else if (kind < 34) {
            keeping(run, call, kind);
        } else if (kind < 36) {
            whatIf(run, call);
        } else {
            look(run, call, kind);
        }
    }

    private void change(int run, int call, int kind) {
        if (kind < 6) {
            int setting = call < 0 ? 3 : pick(0, 7);
            int[] range = setting >= 0 && setting < 8 ? RANGES[setting] : new int[] {0, 9};
            int value = setting < 2 && random.nextInt(4) > 0 ? pick(range[0], range[0] + slow) : pick(range[0], range[1]);
            due(run, call, "set(" + setting + ", " + value + ")", x.set(setting, value), model.set(setting, value));
        } else if (kind < 8) {
            int line = pick(0, 15);
            int value = pick(0, 255);
            due(run, call, "value(" + line + ", " + value + ")", x.value(line, value), model.value(line, value));
        } else if (kind < 10) {
            int clock = pick(0, 1);
            int ticks = random.nextInt(3) == 0 ? pick(1, 99) : pick(1, 9);
            due(run, call, "slip(" + clock + ", " + ticks + ")", x.slip(clock, ticks), model.slip(clock, ticks));
        } else if (kind < 15) {
            int ticks = pick(1, random.nextInt(9) == 0 ? 999 : far);
            due(run, call, "pass(" + ticks + ")", x.pass(ticks), model.pass(ticks));
        } else {
            due(run, call, "flush()", x.flush(), model.flush());
        }
    }

    private void texts(int run, int call, int kind) {
        if (kind < 22) {
            StringBuilder text = new StringBuilder();
            while (text.length() == 0 || text.length() < 8 && random.nextBoolean()) {
                text.append(PIECES[random.nextInt(PIECES.length)]);
            }
            long characters = Check.packed(text.substring(0, Math.min(8, text.length())));
            if (random.nextInt(100) < wild) {
                characters ^= 1L << random.nextInt(64);
            }
            due(run, call, "put(" + characters + ")", x.put(characters), model.put(characters));
        } else if (kind < 23) {
            due(run, call, "wipe()", x.wipe(), model.wipe());
        } else if (kind < 26) {
            due(run, call, "fault()", x.fault(), model.fault());
        } else {
            if (model.fault() != -6 && random.nextBoolean()) {
                due(run, call, "wipe()", x.wipe(), model.wipe());
                long characters = Check.packed(new String[] {"t9;<4;o3", "v2=9;i7", ">2;t70", "t1;t0;t1"}[random.nextInt(4)]);
                due(run, call, "put(" + characters + ")", x.put(characters), model.put(characters));
            }
            due(run, call, "carryOut()", x.carryOut(), model.carryOut());
        }
    }

    private void keeping(int run, int call, int kind) {
        int slot = pick(0, 1);
        if (kind < 32) {
            due(run, call, "undo()", x.undo(), model.undo());
        } else if (kind < 33) {
            due(run, call, "save(" + slot + ")", x.save(slot), model.save(slot));
        } else {
            due(run, call, "restore(" + slot + ")", x.restore(slot), model.restore(slot));
        }
    }

    private void whatIf(int run, int call) {
        int ticks = random.nextInt(3) == 0 ? pick(1, 999) : pick(1, 99);
        int what = pick(0, 2);
        due(run, call, "would(" + ticks + ", " + what + ")", x.would(ticks, what), model.would(ticks, what));
        due(run, call, "leastRoom(" + ticks + ")", x.leastRoom(ticks), model.leastRoom(ticks));
        if (random.nextInt(3) == 0) {
            what = pick(0, 1);
            due(run, call, "bestOut(" + ticks + ", " + what + ")", x.bestOut(ticks, what), model.bestOut(ticks, what));
        }
    }

    private void look(int run, int call, int kind) {
        int what = pick(0, 3);
        int place = pick(0, random.nextBoolean() ? 7 : 31);
        switch (kind % 7) {
            case 0:
                due(run, call, "waiting(" + place + ", " + what + ")", x.waiting(place, what), model.waiting(place, what));
                break;
            case 1:
                due(run, call, "row(" + place + ", " + what + ")", x.row(place, what), model.row(place, what));
                break;
            case 2:
                due(run, call, "ofMissing(" + place + ", " + what + ")", x.ofMissing(place, what),
                        model.ofMissing(place, what));
                break;
            case 3:
                due(run, call, "count(" + place + ")", x.count(place), model.count(place));
                break;
            case 4:
                due(run, call, "shown()", x.shown(), model.shown());
                break;
            case 5:
                due(run, call, "ratio()", x.ratio(), model.ratio());
                break;
            default:
                due(run, call, "fill()", x.fill(), model.fill());
                break;
        }
    }

    private void lookAtAll(int run, int call) {
        for (int what = 0; what < 26; what++) {
            due(run, call, "count(" + what + ")", x.count(what), model.count(what));
        }
        for (int what = 0; what < 4; what++) {
            for (int place = 0; place <= model.count(2); place++) {
                due(run, call, "waiting(" + place + ", " + what + ")", x.waiting(place, what), model.waiting(place, what));
            }
            for (int row = 0; row < 2 * model.count(19) && what < 3; row++) {
                due(run, call, "row(" + row + ", " + what + ")", x.row(row, what), model.row(row, what));
            }
            for (int missing = 0; missing < 9; missing++) {
                due(run, call, "ofMissing(" + missing + ", " + what + ")", x.ofMissing(missing, what),
                        model.ofMissing(missing, what));
            }
        }
        due(run, call, "shown()", x.shown(), model.shown());
        due(run, call, "fill()", x.fill(), model.fill());
    }
}
