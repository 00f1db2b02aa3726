/** A line doubler between two clocks, as ../shared/DOC.md promises it. */
public final class LineDoubler {
    public static final int NO_SUCH = -1, BAD_VALUE = -2, BAD_TEXT = -3, TOO_MANY = -4, NOT_POSSIBLE = -5, NONE = -6;
    public static final int IN = 0, OUT = 1, ROOM = 2, HEIGHT = 3, DROP = 4, SYNC = 5, COLOUR = 6, SCROLL = 7;
    public static final int CLEAN = 0, TORN = 1, BLANKED = 2;

    private static final int SETTINGS = 8;
    private static final int[] LEAST_SETTINGS = {2, 1, 1, 2, 0, 0, 0, 0};
    private static final int[] MOST_SETTINGS = {99, 99, 16, 16, 1, 1, 255, 255};
    private static final int[] FIRST_SETTINGS = {10, 5, 4, 4, 0, 0, 255, 0};
    private static final int MOST_OUT = 99;

    private static final int LINES = 16;
    private static final int MOST_VALUE = 255;
    private static final int MOST_ROOM = 16;
    private static final int MOST_ROWS = 32;
    private static final int MOST_LOST = 8;
    private static final int MOST_SLIP = 99;
    private static final int MOST_TICKS = 999;
    private static final int LAST_TICK = 99999;
    // Above every tick, and above all faults that some ticks can bring.
    private static final int ENDLESS = 1 << 30;
    private static final int MOST_CHARACTERS = 8;
    private static final int PAD_ROOM = 80;
    private static final int MOST_DIGITS = 3;
    private static final int MOST_UNDONE = 6;
    private static final int SLOTS = 2;

    // The places of a state's numbers are the numbers by which count() asks for them.
    private static final int NOW = 0, CAME = 1, WAITING = 2, TWICE = 3, MISSING = 4, ROWS_OUT = 5, EMPTY_ROWS = 6;
    private static final int NEXT_ROW = 7, NEXT_LINE = 8, NEXT_PICTURE = 9, NEXT_IN = 10, NEXT_OUT = 11;
    private static final int SCREENS = 12, LATEST_SCREEN = 15, SETTING = 16, NUMBERS = 24;
    private static final int PAD_LENGTH = 24, UNDOABLE = 25;

    // The columns of the lines that wait, of the screen's rows and of the missing lines.
    private static final int QUEUE_PICTURE = 0, QUEUE_LINE = 1, QUEUE_TOLD = 2, QUEUE_TIMES = 3, QUEUE_COLUMNS = 4;
    private static final int ROW_SHOWED = 0, ROW_PICTURE = 1, ROW_LINE = 2, ROW_COLUMNS = 3;
    private static final int LOST_PICTURE = 0, LOST_LINE = 1, LOST_WHY = 2, LOST_TICK = 3, LOST_COLUMNS = 4;

    private static final int NO_ROOM = 0, DROPPED = 1, SKIPPED = 2;

    private final State state = new State();
    private final State trial = new State();
    private final State[] slots = new State[SLOTS];
    private final History history = new History();
    private final Pad pad = new Pad();

    public LineDoubler() {
    }

    // ---- changes

    public int set(int setting, int value) {
        history.prepare(state);
        return history.keepIfDone(state.changeSetting(setting, value));
    }

    public int value(int line, int value) {
        history.prepare(state);
        return history.keepIfDone(state.changeValue(line, value));
    }

    public int slip(int clock, int ticks) {
        history.prepare(state);
        return history.keepIfDone(state.delayClock(clock, ticks));
    }

    public int pass(int ticks) {
        history.prepare(state);
        return history.keepIfDone(state.passTicks(ticks, LAST_TICK));
    }

    public int flush() {
        history.prepare(state);
        return history.keepIfDone(state.skipAll());
    }

    // ---- what there is

    public int waiting(int place, int what) {
        if (place < 0 || place >= state.numbers[WAITING]) {
            return NO_SUCH;
        }
        return isWithin(what, 0, QUEUE_COLUMNS - 1) ? state.queue.read(place, what) : BAD_VALUE;
    }

    public int row(int row, int what) {
        if (row < 0 || row >= state.rowsOfScreen()) {
            return NO_SUCH;
        }
        return isWithin(what, 0, ROW_COLUMNS - 1) ? state.screen.read(row, what) : BAD_VALUE;
    }

    public int ofMissing(int missing, int what) {
        if (missing < 0 || missing >= Math.min(MOST_LOST, state.numbers[MISSING])) {
            return NO_SUCH;
        }
        if (!isWithin(what, 0, LOST_COLUMNS - 1)) {
            return BAD_VALUE;
        }
        return state.lost.read((state.numbers[MISSING] - 1 - missing) % MOST_LOST, what);
    }

    public int count(int what) {
        if (what == PAD_LENGTH) {
            return pad.length;
        }
        if (what == UNDOABLE) {
            return history.size;
        }
        return isWithin(what, 0, NUMBERS - 1) ? state.numbers[what] : BAD_VALUE;
    }

    public int shown() {
        int rows = state.rowsOfScreen();
        int shown = 0;
        while (shown < rows && state.screen.read(shown, ROW_PICTURE) != NONE) {
            shown++;
        }
        return shown;
    }

    public int ratio() {
        int twiceOut = 2 * state.setting(OUT);
        if (twiceOut <= 0) {
            return 0;
        }
        float ratio = (float) ((double) state.setting(IN) / twiceOut);
        return (int) bitsOf(ratio, 23, 127);
    }

    public long fill() {
        int ticks = state.numbers[NOW];
        if (ticks <= 0) {
            return 0;
        }
        return bitsOf((double) state.waitedSum / ticks, 52, 1023);
    }

    // ---- what if; nothing changes

    public int would(int ticks, int what) {
        if (!isWithin(ticks, 1, MOST_TICKS) || !isWithin(what, 0, 2)) {
            return BAD_VALUE;
        }
        trial.copyFrom(state);
        trial.passTicks(ticks, ENDLESS);
        if (what == 0) {
            return gainOf(MISSING);
        }
        return what == 1 ? gainOf(EMPTY_ROWS) : gainOf(SCREENS + CLEAN);
    }

    public int leastRoom(int ticks) {
        if (!isWithin(ticks, 1, MOST_TICKS)) {
            return BAD_VALUE;
        }
        for (int room = Math.max(1, state.numbers[WAITING]); room <= MOST_ROOM; room++) {
            tryWith(ROOM, room, ticks);
            if (gainOf(MISSING) == 0) {
                return room;
            }
        }
        return NONE;
    }

    public int bestOut(int ticks, int what) {
        if (!isWithin(ticks, 1, MOST_TICKS) || !isWithin(what, 0, 1)) {
            return BAD_VALUE;
        }
        int best = 0;
        int fewest = ENDLESS;
        for (int out = 1; out <= MOST_OUT; out++) {
            tryWith(OUT, out, ticks);
            int faults = gainOf(MISSING) + gainOf(EMPTY_ROWS);
            if (faults < fewest) {
                best = out;
                fewest = faults;
            }
        }
        return what == 0 ? best : fewest;
    }

    // ---- texts

    public int put(long characters) {
        int more = charactersIn(characters);
        if (more == 0) {
            return BAD_VALUE;
        }
        if (pad.length + more > PAD_ROOM) {
            return TOO_MANY;
        }
        pad.append(characters, more);
        return pad.length;
    }

    public int wipe() {
        int length = pad.length;
        pad.length = 0;
        return length;
    }

    public int fault() {
        return pad.findFault();
    }

    public int carryOut() {
        if (pad.findFault() != NONE) {
            return BAD_TEXT;
        }
        history.prepare(state);
        int done = 0;
        boolean more = true;
        pad.at = 0;
        // An order has two characters at least: there are never more orders than characters.
        for (int order = 0; more && order < PAD_ROOM; order++) {
            more = pad.readOrder() && carryOutOrder() >= 0;
            if (more) {
                done++;
                more = pad.readSign(';');
            }
        }
        pad.length = 0;
        return history.keepIfDone(done);
    }

    // ---- undo, saving

    public int undo() {
        State before = history.takeLatest();
        if (before == null) {
            return NOT_POSSIBLE;
        }
        state.copyFrom(before);
        return history.size;
    }

    public int save(int slot) {
        if (!isWithin(slot, 0, SLOTS - 1)) {
            return BAD_VALUE;
        }
        keepCopy(slots, slot, state);
        return state.numbers[NOW];
    }

    public int restore(int slot) {
        if (!isWithin(slot, 0, SLOTS - 1)) {
            return BAD_VALUE;
        }
        if (slots[slot] == null) {
            return NOT_POSSIBLE;
        }
        history.prepare(state);
        state.copyFrom(slots[slot]);
        return history.keepIfDone(state.numbers[NOW]);
    }

    // ---- what the calls above share

    private static boolean isWithin(int number, int least, int most) {
        return number >= least && number <= most;
    }

    /** Copies a state into a place of a row of states; each of them is made once, when it is needed first. */
    private static void keepCopy(State[] states, int place, State original) {
        if (place < 0 || place >= states.length) {
            return;
        }
        if (states[place] == null) {
            states[place] = new State();
        }
        states[place].copyFrom(original);
    }

    /** Lets ticks pass in the trial, a copy of the state with one setting of its own. */
    private void tryWith(int setting, int value, int ticks) {
        trial.copyFrom(state);
        if (isWithin(setting, 0, SETTINGS - 1)) {
            trial.numbers[SETTING + setting] = value;
        }
        trial.passTicks(ticks, ENDLESS);
    }

    /** By how much a number is greater in the trial than in the state. */
    private int gainOf(int number) {
        return isWithin(number, 0, NUMBERS - 1) ? trial.numbers[number] - state.numbers[number] : 0;
    }

    /** Carries the order out that the pad has read last; the answer is that of its call. */
    private int carryOutOrder() {
        switch (pad.order) {
            case 'i':
                return state.changeSetting(IN, pad.first);
            case 'o':
                return state.changeSetting(OUT, pad.first);
            case 'v':
                return state.changeValue(pad.first, pad.second);
            case 't':
                return state.passTicks(pad.first, LAST_TICK);
            case '<':
                return state.delayClock(0, pad.first);
            case '>':
                return state.delayClock(1, pad.first);
            default:
                return BAD_TEXT;
        }
    }

    /** How many characters a number gives: 0 if it gives none, or is wrong somewhere. */
    private static int charactersIn(long characters) {
        long rest = characters;
        int length = 0;
        while (length < MOST_CHARACTERS && (rest & 255) != 0) {
            if (!isWithin((int) (rest & 255), 33, 126)) {
                return 0;
            }
            rest >>>= 8;
            length++;
        }
        return rest == 0 ? length : 0;
    }

    /**
     * The bits of a number that is not negative, with so many bits behind the point and such an exponent of 1.
     * Halving, doubling and taking 1 away are exact for all numbers that occur here.
     */
    private static long bitsOf(double number, int fractionBits, int bias) {
        if (!(number > 0)) {
            return 0;
        }
        double part = number;
        int exponent = 0;
        while (part >= 2 && exponent < bias) {
            part /= 2;
            exponent++;
        }
        while (part < 1 && exponent > 1 - bias) {
            part *= 2;
            exponent--;
        }
        long fraction = (long) ((part - 1) * (1L << fractionBits));
        return ((long) (exponent + bias) << fractionBits) + fraction;
    }

    /** Rows of numbers, one behind the other; outside of them nothing is read or written. */
    private static final class Table {
        private final int columns;
        private final int[] cells;

        Table(int rows, int columns, int first) {
            this.columns = columns;
            cells = new int[Math.max(0, rows * columns)];
            for (int cell = 0; cell < cells.length; cell++) {
                cells[cell] = first;
            }
        }

        int read(int row, int column) {
            int cell = row * columns + column;
            return cell >= 0 && cell < cells.length ? cells[cell] : NONE;
        }

        void write(int row, int column, int number) {
            int cell = row * columns + column;
            if (cell >= 0 && cell < cells.length) {
                cells[cell] = number;
            }
        }

        /** Takes a row away; the rows behind it move up. */
        void removeRow(int row) {
            int to = row * columns;
            int from = to + columns;
            if (to >= 0 && from <= cells.length) {
                System.arraycopy(cells, from, cells, to, cells.length - from);
            }
        }

        void copyFrom(Table other) {
            System.arraycopy(other.cells, 0, cells, 0, Math.min(other.cells.length, cells.length));
        }
    }

    /** Everything except the pad, the slots and the history. */
    private static final class State {
        private final int[] numbers = new int[NUMBERS];
        private final int[] values = new int[LINES];
        // One more than the most room: a line that comes waits first, and then one is missing if there are too many.
        private final Table queue = new Table(MOST_ROOM + 1, QUEUE_COLUMNS, 0);
        // A row that has never gone out is NONE all along; an empty one has a colour, but no picture and line.
        private final Table screen = new Table(MOST_ROWS, ROW_COLUMNS, NONE);
        // A ring: the missing line n stands in the row n, left over by the rows.
        private final Table lost = new Table(MOST_LOST, LOST_COLUMNS, 0);
        // The lines that waited behind each tick, added up.
        private int waitedSum;

        State() {
            for (int setting = 0; setting < SETTINGS; setting++) {
                numbers[SETTING + setting] = FIRST_SETTINGS[setting];
            }
            for (int line = 0; line < LINES; line++) {
                values[line] = 10 * line;
            }
            numbers[LATEST_SCREEN] = NONE;
        }

        void copyFrom(State other) {
            System.arraycopy(other.numbers, 0, numbers, 0, NUMBERS);
            System.arraycopy(other.values, 0, values, 0, LINES);
            queue.copyFrom(other.queue);
            screen.copyFrom(other.screen);
            lost.copyFrom(other.lost);
            waitedSum = other.waitedSum;
        }

        int setting(int setting) {
            return isWithin(setting, 0, SETTINGS - 1) ? numbers[SETTING + setting] : 0;
        }

        int rowsOfScreen() {
            return 2 * setting(HEIGHT);
        }

        int changeSetting(int setting, int value) {
            if (!isWithin(setting, 0, SETTINGS - 1)
                    || !isWithin(value, LEAST_SETTINGS[setting], MOST_SETTINGS[setting])) {
                return BAD_VALUE;
            }
            if ((setting == HEIGHT && numbers[NOW] != 0) || (setting == ROOM && value < numbers[WAITING])) {
                return NOT_POSSIBLE;
            }
            int previous = numbers[SETTING + setting];
            numbers[SETTING + setting] = value;
            return previous;
        }

        int changeValue(int line, int value) {
            if (!isWithin(line, 0, LINES - 1)) {
                return NO_SUCH;
            }
            if (!isWithin(value, 0, MOST_VALUE)) {
                return BAD_VALUE;
            }
            int previous = values[line];
            values[line] = value;
            return previous;
        }

        int delayClock(int clock, int ticks) {
            if (!isWithin(clock, 0, 1) || !isWithin(ticks, 1, MOST_SLIP)) {
                return BAD_VALUE;
            }
            int next = clock == 0 ? NEXT_IN : NEXT_OUT;
            numbers[next] += ticks;
            return numbers[next];
        }

        /**
         * Lets ticks pass if the tick of now is not above a last one then. Those at which nothing comes or goes are
         * taken in one step with the one ahead of them.
         */
        int passTicks(int ticks, int lastTick) {
            if (!isWithin(ticks, 1, MOST_TICKS)) {
                return BAD_VALUE;
            }
            if (numbers[NOW] > lastTick - ticks) {
                return TOO_MANY;
            }
            int passed = 0;
            while (passed < ticks) {
                if (numbers[NOW] == numbers[NEXT_IN]) {
                    lineComes();
                }
                if (numbers[NOW] == numbers[NEXT_OUT]) {
                    rowGoesOut();
                }
                int quiet = Math.min(numbers[NEXT_IN], numbers[NEXT_OUT]) - numbers[NOW];
                int step = Math.max(1, Math.min(quiet, ticks - passed));
                waitedSum += step * numbers[WAITING];
                numbers[NOW] += step;
                passed += step;
            }
            return numbers[NOW];
        }

        int skipAll() {
            int skipped = numbers[WAITING];
            for (int line = 0; line < skipped; line++) {
                loseWaiting(0, SKIPPED);
            }
            return skipped;
        }

        private void lineComes() {
            numbers[CAME]++;
            nextLineWaits();
            if (numbers[WAITING] > setting(ROOM)) {
                int last = numbers[WAITING] - 1;
                int place = setting(DROP) == 1 ? firstNotOut() : last;
                loseWaiting(place, place == last ? NO_ROOM : DROPPED);
            }
            numbers[NEXT_LINE]++;
            if (numbers[NEXT_LINE] >= setting(HEIGHT)) {
                numbers[NEXT_LINE] = 0;
                numbers[NEXT_PICTURE]++;
            }
            numbers[NEXT_IN] += setting(IN);
        }

        private void nextLineWaits() {
            int place = numbers[WAITING];
            int picture = numbers[NEXT_PICTURE];
            int line = numbers[NEXT_LINE];
            int told = isWithin(line, 0, LINES - 1) ? values[line] + setting(SCROLL) * picture : 0;
            queue.write(place, QUEUE_PICTURE, picture);
            queue.write(place, QUEUE_LINE, line);
            queue.write(place, QUEUE_TOLD, told & 255);
            queue.write(place, QUEUE_TIMES, 0);
            numbers[WAITING]++;
        }

        /** The place of the first waiting line that has not gone out yet; the last place always has such a line. */
        private int firstNotOut() {
            int place = 0;
            while (place < numbers[WAITING] - 1 && queue.read(place, QUEUE_TIMES) != 0) {
                place++;
            }
            return place;
        }

        /** A waiting line is missing from now on; what waits behind it moves up. */
        private void loseWaiting(int place, int why) {
            int row = numbers[MISSING] % MOST_LOST;
            lost.write(row, LOST_PICTURE, queue.read(place, QUEUE_PICTURE));
            lost.write(row, LOST_LINE, queue.read(place, QUEUE_LINE));
            lost.write(row, LOST_WHY, why);
            lost.write(row, LOST_TICK, numbers[NOW]);
            numbers[MISSING]++;
            queue.removeRow(place);
            numbers[WAITING]--;
        }

        private void rowGoesOut() {
            int rows = rowsOfScreen();
            int row = numbers[NEXT_ROW];
            if (row == 0 && setting(SYNC) == 1) {
                skipToPicture();
            }
            if (numbers[WAITING] > 0) {
                showFirstWaiting(row);
            } else {
                showColour(row);
            }
            numbers[ROWS_OUT]++;
            numbers[NEXT_ROW] = row + 1;
            if (numbers[NEXT_ROW] >= rows) {
                numbers[NEXT_ROW] = 0;
                int how = judgeScreen(rows);
                numbers[SCREENS + how]++;
                numbers[LATEST_SCREEN] = how;
            }
            numbers[NEXT_OUT] += setting(OUT);
        }

        /** Skips waiting lines until the first one is a line 0 that has not gone out yet, or none waits. */
        private void skipToPicture() {
            int most = numbers[WAITING];
            for (int skipped = 0; skipped < most; skipped++) {
                if (queue.read(0, QUEUE_LINE) == 0 && queue.read(0, QUEUE_TIMES) == 0) {
                    return;
                }
                loseWaiting(0, SKIPPED);
            }
        }

        private void showFirstWaiting(int row) {
            screen.write(row, ROW_SHOWED, queue.read(0, QUEUE_TOLD));
            screen.write(row, ROW_PICTURE, queue.read(0, QUEUE_PICTURE));
            screen.write(row, ROW_LINE, queue.read(0, QUEUE_LINE));
            if (queue.read(0, QUEUE_TIMES) == 0) {
                queue.write(0, QUEUE_TIMES, 1);
            } else {
                queue.removeRow(0);
                numbers[WAITING]--;
                numbers[TWICE]++;
            }
        }

        private void showColour(int row) {
            screen.write(row, ROW_SHOWED, setting(COLOUR));
            screen.write(row, ROW_PICTURE, NONE);
            screen.write(row, ROW_LINE, NONE);
            numbers[EMPTY_ROWS]++;
        }

        /** How the screen was whose last row has just gone out: CLEAN, TORN or BLANKED. */
        private int judgeScreen(int rows) {
            int picture = screen.read(0, ROW_PICTURE);
            int how = CLEAN;
            for (int row = 0; row < rows; row++) {
                if (screen.read(row, ROW_PICTURE) == NONE) {
                    return BLANKED;
                }
                if (screen.read(row, ROW_PICTURE) != picture || screen.read(row, ROW_LINE) != row / 2) {
                    how = TORN;
                }
            }
            return how;
        }
    }

    /** The states before the latest changes; they stand in a ring, with one more for a change that may fail. */
    private static final class History {
        private static final int RING = MOST_UNDONE + 1;

        private final State[] states = new State[RING];
        private int oldest;
        private int size;

        /** Copies the state before a change; it counts only when the change turns out to be done. */
        void prepare(State before) {
            keepCopy(states, (oldest + size) % RING, before);
        }

        /** Records what was prepared, unless the change answers with an error; hands the answer on. */
        int keepIfDone(int answer) {
            if (answer >= 0) {
                if (size < MOST_UNDONE) {
                    size++;
                } else {
                    oldest = (oldest + 1) % RING;
                }
            }
            return answer;
        }

        /** Takes the latest state out of the history; null if there is none. */
        State takeLatest() {
            if (size <= 0) {
                return null;
            }
            size--;
            return states[(oldest + size) % RING];
        }
    }

    /** The text of orders, and how far it has been read. */
    private static final class Pad {
        private final char[] characters = new char[PAD_ROOM];
        private int length;
        private int at;
        // The order that was read last: its sign, its number, and what stands behind the "=" of a "v".
        private char order;
        private int first;
        private int second;

        void append(long added, int more) {
            for (int place = 0; place < more && length < PAD_ROOM; place++) {
                characters[length] = (char) ((added >>> (8 * (more - 1 - place))) & 255);
                length++;
            }
        }

        int findFault() {
            at = 0;
            for (int orders = 0; orders < PAD_ROOM; orders++) {
                if (!readOrder()) {
                    return at;
                }
                if (!readSign(';')) {
                    break;
                }
            }
            return at == length ? NONE : at;
        }

        /** Reads an order; false if it has a fault, which is then where the reading stands. */
        boolean readOrder() {
            order = look();
            if (!isOrder(order)) {
                return false;
            }
            at++;
            first = readNumber();
            second = 0;
            if (order != 'v' || first < 0) {
                return first >= 0;
            }
            if (!readSign('=')) {
                return false;
            }
            second = readNumber();
            return second >= 0;
        }

        boolean readSign(char sign) {
            if (look() != sign) {
                return false;
            }
            at++;
            return true;
        }

        /** Reads the digits that can belong to a number: one behind a 0, or a fourth one, is left. */
        private int readNumber() {
            if (!isDigit(look())) {
                return NONE;
            }
            int number = look() - '0';
            at++;
            for (int digits = 1; digits < MOST_DIGITS && number > 0 && isDigit(look()); digits++) {
                number = 10 * number + look() - '0';
                at++;
            }
            return number;
        }

        /** The character at which the reading stands, 0 behind the last one. */
        private char look() {
            return at >= 0 && at < length && at < PAD_ROOM ? characters[at] : 0;
        }

        private static boolean isOrder(char sign) {
            return sign == 'i' || sign == 'o' || sign == 'v' || sign == 't' || sign == '<' || sign == '>';
        }

        private static boolean isDigit(char sign) {
            return sign >= '0' && sign <= '9';
        }
    }
}
