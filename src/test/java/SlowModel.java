import java.util.ArrayDeque;
import java.util.ArrayList;
import java.util.Arrays;
import java.util.Deque;
import java.util.Iterator;
import java.util.List;
import java.util.regex.Matcher;
import java.util.regex.Pattern;

/** The document written down a second time, tick by tick and without any thrift, for RandomRunsTest to compare with. */
final class SlowModel {
    private static final Pattern TEXT;

    static {
        String number = "(?:0|[1-9][0-9]?[0-9]?)";
        String order = "(?:[iot<>]" + number + "|v" + number + "=" + number + ")";
        TEXT = Pattern.compile(order + "(?:;" + order + ")*");
    }

    private static final int[][] RANGES = {{2, 99}, {1, 99}, {1, 16}, {2, 16}, {0, 1}, {0, 1}, {0, 255}, {0, 255}};

    private static final class Line {
        int picture;
        int line;
        int told;
        int times;

        Line copy() {
            Line copy = new Line();
            copy.picture = picture;
            copy.line = line;
            copy.told = told;
            copy.times = times;
            return copy;
        }
    }

    private static final class World {
        int[] settings = {10, 5, 4, 4, 0, 0, 255, 0};
        int[] values = new int[16];
        int now;
        int comes;
        int goes;
        int nextLine;
        int nextPicture;
        int nextRow;
        int came;
        int twice;
        int rowsOut;
        int empty;
        int[] screens = new int[3];
        int latest = -6;
        long waited;
        List<Line> queue = new ArrayList<>();
        List<int[]> missing = new ArrayList<>();
        int[][] rows = new int[32][];

        World() {
            for (int i = 0; i < 16; i++) {
                values[i] = 10 * i;
            }
        }

        World copy() {
            World copy = new World();
            copy.settings = settings.clone();
            copy.values = values.clone();
            copy.now = now;
            copy.comes = comes;
            copy.goes = goes;
            copy.nextLine = nextLine;
            copy.nextPicture = nextPicture;
            copy.nextRow = nextRow;
            copy.came = came;
            copy.twice = twice;
            copy.rowsOut = rowsOut;
            copy.empty = empty;
            copy.screens = screens.clone();
            copy.latest = latest;
            copy.waited = waited;
            for (Line line : queue) {
                copy.queue.add(line.copy());
            }
            copy.missing.addAll(missing);
            copy.rows = rows.clone();
            return copy;
        }

        void lose(Line line, int why) {
            missing.add(new int[] {line.picture, line.line, why, now});
        }

        void tick() {
            if (now == comes) {
                come();
            }
            if (now == goes) {
                go();
            }
            waited += queue.size();
            now++;
        }

        private void come() {
            came++;
            Line line = new Line();
            line.picture = nextPicture;
            line.line = nextLine;
            line.told = (int) ((values[nextLine] + (long) settings[7] * nextPicture) % 256);
            if (queue.size() < settings[2]) {
                queue.add(line);
            } else {
                Line dropped = null;
                if (settings[4] == 1) {
                    for (Line other : queue) {
                        if (dropped == null && other.times == 0) {
                            dropped = other;
                        }
                    }
                }
                if (dropped == null) {
                    lose(line, 0);
                } else {
                    queue.remove(dropped);
                    lose(dropped, 1);
                    queue.add(line);
                }
            }
            if (nextLine == settings[3] - 1) {
                nextLine = 0;
                nextPicture++;
            } else {
                nextLine++;
            }
            comes += settings[0];
        }

        private void go() {
            if (settings[5] == 1 && nextRow == 0) {
                Iterator<Line> lines = queue.iterator();
                while (lines.hasNext()) {
                    Line line = lines.next();
                    if (line.line == 0 && line.times == 0) {
                        break;
                    }
                    lose(line, 2);
                    lines.remove();
                }
            }
            rowsOut++;
            if (queue.isEmpty()) {
                empty++;
                rows[nextRow] = new int[] {settings[6], -6, -6};
            } else {
                Line line = queue.get(0);
                rows[nextRow] = new int[] {line.told, line.picture, line.line};
                line.times++;
                if (line.times == 2) {
                    twice++;
                    queue.remove(0);
                }
            }
            nextRow++;
            if (nextRow == 2 * settings[3]) {
                nextRow = 0;
                boolean blanked = false;
                boolean clean = true;
                for (int row = 0; row < 2 * settings[3]; row++) {
                    blanked |= rows[row][1] == -6;
                    clean &= rows[row][1] == rows[0][1] && rows[row][2] == row / 2;
                }
                latest = blanked ? 2 : clean ? 0 : 1;
                screens[latest]++;
            }
            goes += settings[1];
        }
    }

    private World world = new World();
    private final World[] slots = new World[2];
    private final Deque<World> history = new ArrayDeque<>();
    private String pad = "";

    private int change(World before, int answer) {
        if (answer >= 0) {
            history.addLast(before);
            if (history.size() > 6) {
                history.removeFirst();
            }
        }
        return answer;
    }

    int set(int setting, int value) {
        return change(world.copy(), setIn(setting, value));
    }

    private int setIn(int setting, int value) {
        if (setting < 0 || setting > 7 || value < RANGES[setting][0] || value > RANGES[setting][1]) {
            return -2;
        }
        if (setting == 3 && world.now > 0 || setting == 2 && value < world.queue.size()) {
            return -5;
        }
        int previous = world.settings[setting];
        world.settings[setting] = value;
        return previous;
    }

    int value(int line, int value) {
        return change(world.copy(), valueIn(line, value));
    }

    private int valueIn(int line, int value) {
        if (line < 0 || line > 15) {
            return -1;
        }
        if (value < 0 || value > 255) {
            return -2;
        }
        int previous = world.values[line];
        world.values[line] = value;
        return previous;
    }

    int slip(int clock, int ticks) {
        return change(world.copy(), slipIn(clock, ticks));
    }

    private int slipIn(int clock, int ticks) {
        if (clock < 0 || clock > 1 || ticks < 1 || ticks > 99) {
            return -2;
        }
        return clock == 0 ? (world.comes += ticks) : (world.goes += ticks);
    }

    int pass(int ticks) {
        return change(world.copy(), passIn(ticks));
    }

    private int passIn(int ticks) {
        if (ticks < 1 || ticks > 999) {
            return -2;
        }
        if (world.now + ticks > 99999) {
            return -4;
        }
        for (int i = 0; i < ticks; i++) {
            world.tick();
        }
        return world.now;
    }

    int flush() {
        World before = world.copy();
        for (Line line : world.queue) {
            world.lose(line, 2);
        }
        world.queue.clear();
        return change(before, before.queue.size());
    }

    int waiting(int place, int what) {
        if (place < 0 || place >= world.queue.size()) {
            return -1;
        }
        Line line = world.queue.get(place);
        int[] all = {line.picture, line.line, line.told, line.times};
        return what < 0 || what > 3 ? -2 : all[what];
    }

    int row(int row, int what) {
        if (row < 0 || row >= 2 * world.settings[3]) {
            return -1;
        }
        if (what < 0 || what > 2) {
            return -2;
        }
        return world.rows[row] == null ? -6 : world.rows[row][what];
    }

    int ofMissing(int missing, int what) {
        if (missing < 0 || missing > 7 || missing >= world.missing.size()) {
            return -1;
        }
        return what < 0 || what > 3 ? -2 : world.missing.get(world.missing.size() - 1 - missing)[what];
    }

    int count(int what) {
        World w = world;
        int[] s = w.settings;
        int[] all = {w.now, w.came, w.queue.size(), w.twice, w.missing.size(), w.rowsOut, w.empty, w.nextRow, w.nextLine,
            w.nextPicture, w.comes, w.goes, w.screens[0], w.screens[1], w.screens[2], w.latest, s[0], s[1], s[2], s[3],
            s[4], s[5], s[6], s[7], pad.length(), history.size()};
        return what < 0 || what >= all.length ? -2 : all[what];
    }

    int shown() {
        int shown = 0;
        for (int row = 0; row < 2 * world.settings[3]; row++) {
            if (world.rows[row] == null || world.rows[row][1] == -6) {
                return shown;
            }
            shown++;
        }
        return shown;
    }

    int ratio() {
        return Float.floatToIntBits((float) ((double) world.settings[0] / (2 * world.settings[1])));
    }

    long fill() {
        return world.now == 0 ? 0 : Double.doubleToLongBits((double) world.waited / world.now);
    }

    private static int[] gains(World from, int ticks) {
        World w = from.copy();
        for (int i = 0; i < ticks; i++) {
            w.tick();
        }
        return new int[] {w.missing.size() - from.missing.size(), w.empty - from.empty, w.screens[0] - from.screens[0]};
    }

    int would(int ticks, int what) {
        return ticks < 1 || ticks > 999 || what < 0 || what > 2 ? -2 : gains(world, ticks)[what];
    }

    int leastRoom(int ticks) {
        if (ticks < 1 || ticks > 999) {
            return -2;
        }
        for (int room = 1; room <= 16; room++) {
            World other = world.copy();
            other.settings[2] = room;
            if (room >= world.queue.size() && gains(other, ticks)[0] == 0) {
                return room;
            }
        }
        return -6;
    }

    int bestOut(int ticks, int what) {
        if (ticks < 1 || ticks > 999 || what < 0 || what > 1) {
            return -2;
        }
        int[] faults = new int[100];
        faults[0] = Integer.MAX_VALUE;
        int best = 0;
        for (int out = 1; out <= 99; out++) {
            World other = world.copy();
            other.settings[1] = out;
            int[] gains = gains(other, ticks);
            faults[out] = gains[0] + gains[1];
            best = faults[out] < faults[best] ? out : best;
        }
        return what == 0 ? best : faults[best];
    }

    int put(long characters) {
        StringBuilder text = new StringBuilder();
        boolean ended = false;
        for (int shift = 0; shift < 64; shift += 8) {
            int code = (int) (characters >>> shift & 255);
            ended |= code == 0;
            if (ended ? code != 0 : code < 33 || code > 126) {
                return -2;
            }
            if (!ended) {
                text.insert(0, (char) code);
            }
        }
        if (text.length() == 0) {
            return -2;
        }
        if (pad.length() + text.length() > 80) {
            return -4;
        }
        pad += text;
        return pad.length();
    }

    int wipe() {
        int length = pad.length();
        pad = "";
        return length;
    }

    int fault() {
        for (int length = 1; length <= pad.length(); length++) {
            Matcher matcher = TEXT.matcher(pad.substring(0, length));
            if (!matcher.matches() && !matcher.hitEnd()) {
                return length - 1;
            }
        }
        return TEXT.matcher(pad).matches() ? -6 : pad.length();
    }

    int carryOut() {
        if (fault() != -6) {
            return -3;
        }
        World before = world.copy();
        int done = 0;
        for (String order : pad.split(";")) {
            int[] numbers = Arrays.stream(order.substring(1).split("=")).mapToInt(Integer::parseInt).toArray();
            int answer;
            switch (order.charAt(0)) {
                case 'i':
                    answer = setIn(0, numbers[0]);
                    break;
                case 'o':
                    answer = setIn(1, numbers[0]);
                    break;
                case 'v':
                    answer = valueIn(numbers[0], numbers[1]);
                    break;
                case 't':
                    answer = passIn(numbers[0]);
                    break;
                default:
                    answer = slipIn(order.charAt(0) == '<' ? 0 : 1, numbers[0]);
                    break;
            }
            if (answer < 0) {
                break;
            }
            done++;
        }
        pad = "";
        return change(before, done);
    }

    int undo() {
        if (history.isEmpty()) {
            return -5;
        }
        world = history.removeLast();
        return history.size();
    }

    int save(int slot) {
        if (slot < 0 || slot > 1) {
            return -2;
        }
        slots[slot] = world.copy();
        return world.now;
    }

    int restore(int slot) {
        if (slot < 0 || slot > 1) {
            return -2;
        }
        if (slots[slot] == null) {
            return -5;
        }
        World before = world;
        world = slots[slot].copy();
        return change(before, world.now);
    }
}
