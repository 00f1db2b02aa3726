/** The sentences of the part "Texts" of the section Terms, and of the promises 17 to 20, at their bounds. */
public final class EdgesOfTextsTest {
    private static final int IN = 0, OUT = 1;
    private static final String ORDERS = "iovt<>", DIGITS = "0123456789";
    /** Some text, and the characters that can stand behind it; a " " tells that the text may also end there. */
    private static final String[][] PLACES = {{"", ORDERS}, {"i", DIGITS}, {"o", DIGITS}, {"t", DIGITS}, {"<", DIGITS},
        {">", DIGITS}, {"i0", "; "}, {"o9", DIGITS + "; "}, {"t1", DIGITS + "; "}, {"<12", DIGITS + "; "},
        {">99", DIGITS + "; "}, {"i100", "; "}, {"t999", "; "}, {"<100", "; "}, {">999", "; "}, {"v", DIGITS},
        {"v0", "="}, {"v1", DIGITS + "="}, {"v15", DIGITS + "="}, {"v100", "="}, {"v999", "="}, {"v0=", DIGITS},
        {"v999=", DIGITS}, {"v0=0", "; "}, {"v0=1", DIGITS + "; "}, {"v15=25", DIGITS + "; "}, {"v15=255", "; "},
        {"v999=999", "; "}, {"i0;", ORDERS}, {"v0=0;", ORDERS}, {"t999;", ORDERS}, {"i5;v", DIGITS}, {"i5;v3", DIGITS + "="},
        {"i5;v3=", DIGITS}, {"i5;v3=7;>", DIGITS}, {"i5;v3=7;>0", "; "}};

    public static void main(String[] args) throws Exception {
        Check.run(EdgesOfTextsTest.class);
    }

    private static void due(String call, long got, long want) {
        Check.due(call, got, want);
    }

    private static LineDoubler with(String text) {
        LineDoubler x = new LineDoubler();
        Check.type(x, text);
        due("length of the pad", x.count(24), text.length());
        return x;
    }

    private static void faults(String text, int want) {
        due("fault of \"" + text + "\"", Check.faultOf(text), want);
        LineDoubler x = with(text);
        int answer = x.carryOut();
        due("carryOut of \"" + text + "\" is BAD_TEXT", answer == -3 ? 1 : 0, want == -6 ? 0 : 1);
        due("the pad is as long as", x.count(24), want == -6 ? 0 : text.length());
    }

    // ---- Terms: texts

    @Sentence("The pad is a text of at most 80 characters, a row of orders:")
    static void termsThePadHasAtMost80Characters() {
        LineDoubler x = Scenes.padOf(79);
        due("79", x.count(24), 79);
        due("80", x.put('1'), 80);
        due("81", x.put(';'), -4);
        due("it stays", x.count(24), 80);
        due("a row of orders", x.carryOut(), 27);
    }

    @Sentence({"text = order { \";\" order }", "order = \"i\" number | \"o\" number | \"v\" number \"=\" number | \"t\" number "
            + "| \"<\" number | \">\" number"})
    static void termsATextIsARowOfOrders() {
        for (String order : new String[] {"i5", "o5", "v5=5", "t5", "<5", ">5"}) {
            faults(order, -6);
            faults(order + ";t1", -6);
            faults("t1;" + order, -6);
            faults(order + ";" + order + ";" + order, -6);
            faults(order + ";", order.length() + 1);
            faults(";" + order, 0);
            faults(order + ";;" + order, order.length() + 1);
            faults(order + "t1", order.length());
            due("orders", with(order + ";" + order).carryOut(), 2);
        }
    }

    @Sentence("\"i\", \"o\": set() of IN, of OUT;")
    static void termsIAndOSetInAndOut() {
        int[][] values = {{'i', IN, 2, 99}, {'o', OUT, 1, 99}};
        for (int[] each : values) {
            String order = "" + (char) each[0];
            for (int value : new int[] {each[2] - 1, each[2], each[3], each[3] + 1}) {
                LineDoubler x = with(order + value);
                boolean taken = value >= each[2] && value <= each[3];
                due(order + value, x.carryOut(), taken ? 1 : 0);
                due("the setting", x.count(16 + each[1]), taken ? value : each[1] == IN ? 10 : 5);
                due("the other one", x.count(17 - each[1]), each[1] == IN ? 5 : 10);
            }
        }
    }

    @Sentence("\"v\": value() of a line;")
    static void termsVChangesTheValueOfALine() {
        int[][] values = {{0, 0, 1}, {0, 255, 1}, {15, 0, 1}, {15, 255, 1}, {0, 256, 0}, {15, 256, 0}, {16, 0, 0}, {16, 256, 0},
            {999, 999, 0}};
        for (int[] each : values) {
            LineDoubler x = with("v" + each[0] + "=" + each[1]);
            due("v" + each[0] + "=" + each[1], x.carryOut(), each[2]);
            for (int line = 0; line < 16; line++) {
                due("value of " + line, x.value(line, 0), each[2] == 1 && line == each[0] ? each[1] : 10 * line);
            }
        }
    }

    @Sentence("\"t\": pass() ticks;")
    static void termsTPassesTicks() {
        for (int ticks : new int[] {0, 1, 999}) {
            LineDoubler x = with("t" + ticks);
            due("t" + ticks, x.carryOut(), ticks == 0 ? 0 : 1);
            due("tick of now", x.count(0), ticks);
            due("lines", x.count(1), (ticks + 9) / 10);
        }
    }

    @Sentence("\"<\": slip() of the lines that come, \">\": of the rows that go out, by so many ticks.")
    static void termsTheClocksSlip() {
        for (int ticks : new int[] {0, 1, 99, 100}) {
            boolean taken = ticks == 1 || ticks == 99;
            LineDoubler x = with("<" + ticks);
            due("<" + ticks, x.carryOut(), taken ? 1 : 0);
            due("the next line", x.count(10), taken ? ticks : 0);
            due("the next row", x.count(11), 0);
            x = with(">" + ticks);
            due(">" + ticks, x.carryOut(), taken ? 1 : 0);
            due("the next line", x.count(10), 0);
            due("the next row", x.count(11), taken ? ticks : 0);
        }
    }

    @Sentence("A number is 0 to 999, without leading zeros.")
    static void termsANumberIs0To999() {
        for (String start : new String[] {"i", "o", "t", "<", ">", "v7="}) {
            for (String number : new String[] {"0", "1", "9", "10", "99", "100", "101", "990", "999"}) {
                faults(start + number, -6);
            }
            faults(start + "1000", start.length() + 3);
            faults(start + "9990", start.length() + 3);
            faults(start + "9999", start.length() + 3);
        }
        faults("v999=0", -6);
        faults("v1000=0", 4);
        faults("v9990=0", 4);
    }

    @Sentence("without leading zeros.")
    static void termsANumberHasNoLeadingZeros() {
        for (String start : new String[] {"i", "o", "v", "t", "<", ">", "v7="}) {
            for (String number : new String[] {"00", "01", "09", "000", "007", "099"}) {
                faults(start + number, start.length() + 1);
            }
        }
        faults("v00=0", 2);
    }

    @Sentence("The fault is the index of the first character that cannot stand at its place when the text is read from left "
            + "to right")
    static void termsTheFirstCharacterThatCannotStandAtItsPlace() {
        for (String[] place : PLACES) {
            LineDoubler x = new LineDoubler();
            int calls = 0;
            for (char character = 33; character < 127; character++) {
                String text = place[0] + character;
                if (place[1].indexOf(character) < 0) {
                    Check.type(x, text);
                    due("fault of \"" + text + "\"", x.fault(), place[0].length());
                    x.wipe();
                } else {
                    int fault = Check.faultOf(text);
                    due("\"" + text + "\" can stand", fault == -6 || fault == text.length() ? 1 : 0, 1);
                }
                calls += 3 + text.length() / 8;
                if (calls > 400) {
                    x = new LineDoubler();
                    calls = 0;
                }
            }
        }
    }

    @Sentence("The fault is the index of the first character that cannot stand at its place")
    static void termsOfSeveralFaultsTheFirst() {
        faults("x;x", 0);
        faults("i;x", 1);
        faults("i5,o05", 2);
        faults("i5;o05;", 5);
        faults("i5;o5;t", 7);
    }

    @Sentence("(also of a digit by which a number would be above 999);")
    static void termsADigitByWhichANumberWouldBeAbove999() {
        for (int number = 100; number <= 999; number += 29) {
            for (char digit = '0'; digit <= '9'; digit++) {
                due("t" + number + digit, Check.faultOf("t" + number + digit), 4);
            }
        }
        faults("v1=1000;x", 6);
        faults("i5;v1234=1", 7);
    }

    @Sentence("if there is none and the text ends too early (also if it is empty), it is the length of the text.")
    static void termsATextThatEndsTooEarly() {
        for (String[] place : PLACES) {
            faults(place[0], place[1].endsWith(" ") ? -6 : place[0].length());
        }
    }

    @Sentence("(also if it is empty), it is the length of the text.")
    static void termsAnEmptyTextHasTheFault0() {
        LineDoubler x = new LineDoubler();
        due("empty", x.fault(), 0);
        due("carryOut", x.carryOut(), -3);
        Check.type(x, "t1");
        x.wipe();
        due("empty again", x.fault(), 0);
        Check.type(x, "t1");
        x.carryOut();
        due("empty once more", x.fault(), 0);
    }

    @Sentence("if there is none and the text ends too early")
    static void termsAFullPadThatEndsTooEarly() {
        due("80 characters", Scenes.padOf(80).fault(), -6);
        due("79 characters", Scenes.padOf(79).fault(), 79);
        due("78 characters", Scenes.padOf(78).fault(), 78);
        LineDoubler x = Scenes.padOf(78);
        x.put(Check.packed("v5"));
        due("80 characters, too few", x.fault(), 80);
        x = Scenes.padOf(79);
        x.put('x');
        due("the 80th cannot stand", x.fault(), 79);
    }

    // ---- promise 17: put

    @Sentence("Appends characters to the pad. They are given as a number: its lowest 8 bits are the last character, the next 8 "
            + "bits the one before, and so on;")
    static void promise17TheLowest8BitsAreTheLastCharacter() {
        LineDoubler x = new LineDoubler();
        due("t12", x.put('t' << 16 | '1' << 8 | '2'), 3);
        due("3", x.put('3'), 4);
        due("no fault", x.fault(), -6);
        due("carried out", x.carryOut(), 1);
        due("ticks", x.count(0), 123);
    }

    @Sentence("8 bits that are 0 mean that there are no more characters, and everything above them has to be 0, too.")
    static void promise17EverythingAbove8BitsThatAre0IsToBe0() {
        for (int characters = 1; characters <= 6; characters++) {
            long text = Check.packed("tttttt".substring(0, characters));
            due(characters + " characters", new LineDoubler().put(text), characters);
            for (int bit = 8 * characters + 8; bit < 64; bit++) {
                LineDoubler x = new LineDoubler();
                due(characters + " characters, and the bit " + bit, x.put(text | 1L << bit), -2);
                due("the pad stays", x.count(24), 0);
            }
        }
        for (int bit = 8; bit < 64; bit++) {
            due("no character, and the bit " + bit, new LineDoubler().put(1L << bit), -2);
        }
    }

    @Sentence("`characters`: 1 to 8 characters")
    static void promise17From1To8Characters() {
        LineDoubler x = new LineDoubler();
        int length = 0;
        for (int characters = 1; characters <= 8; characters++) {
            length += characters;
            due(characters + " characters", x.put(Check.packed("12345678".substring(0, characters))), length);
        }
        due("none", x.put(0), -2);
        due("length", x.count(24), 36);
    }

    @Sentence("Returns the length of the pad then;")
    static void promise17ReturnsTheLengthOfThePad() {
        LineDoubler x = new LineDoubler();
        for (int length = 1; length <= 80; length++) {
            due("put", x.put('~'), length);
            due("count", x.count(24), length);
        }
    }

    @Sentence("BAD_VALUE if there is no character, a code is not 33 to 126, or a bit above 8 bits that are 0 is not 0;")
    static void promise17ACodeIs33To126() {
        for (int place = 0; place < 8; place++) {
            for (int code = 1; code < 256; code++) {
                long others = Check.packed("tttttttt") & ~(255L << 8 * place);
                boolean taken = code >= 33 && code <= 126;
                LineDoubler x = new LineDoubler();
                due("code " + code + " at " + place, x.put(others | (long) code << 8 * place), taken ? 8 : -2);
                due("the length", x.count(24), taken ? 8 : 0);
            }
        }
    }

    @Sentence("BAD_VALUE if there is no character,")
    static void promise17NoCharacter() {
        due("none", new LineDoubler().put(0), -2);
        due("none, to a full pad", Scenes.padOf(80).put(0), -2);
    }

    @Sentence("TOO_MANY if the pad would be longer than 80.")
    static void promise17ThePadIsNotLongerThan80() {
        for (int characters = 1; characters <= 8; characters++) {
            long text = Check.packed("t1;t1;t1".substring(0, characters));
            LineDoubler x = Scenes.padOf(80 - characters);
            due("80 with " + characters, x.put(text), 80);
            x = Scenes.padOf(81 - characters);
            due("81 with " + characters, x.put(text), -4);
            due("it stays", x.count(24), 81 - characters);
        }
    }

    @Sentence("Appends characters to the pad.")
    static void promise17PutIsNoChange() {
        LineDoubler x = new LineDoubler();
        x.put('t');
        due("history", x.count(25), 0);
        due("undo", x.undo(), -5);
        due("pad", x.count(24), 1);
    }

    // ---- promise 18: wipe

    @Sentence("Empties the pad, and returns the length that it had.")
    static void promise18EmptiesThePad() {
        for (int length : new int[] {0, 1, 79, 80}) {
            LineDoubler x = Scenes.padOf(length);
            due("length", x.wipe(), length);
            due("empty", x.count(24), 0);
            due("again", x.wipe(), 0);
            due("room for 8", x.put(Check.packed("t1;t1;t1")), 8);
            due("nothing of the old text", x.fault(), -6);
            due("history", x.count(25), 0);
        }
    }

    // ---- promise 19: fault

    @Sentence("Returns the fault of the pad, NONE if there is none.")
    static void promise19ReturnsTheFaultOrNone() {
        LineDoubler x = new LineDoubler();
        int[] faults = {0, 1, -6, -6, -6, 5};
        for (int length = 0; length <= 5; length++) {
            due("length " + length, x.fault(), faults[length]);
            due("asked again", x.fault(), faults[length]);
            x.put("t999;;".charAt(length));
        }
        due("length 6", x.fault(), 5);
        Twins.onlyTells("fault", Scenes::busy, LineDoubler::fault);
        Twins.onlyTells("fault", () -> with("i5;x"), LineDoubler::fault);
    }

    // ---- promise 20: carryOut

    @Sentence("Carries the orders of the pad out, one after the other,")
    static void promise20OneAfterTheOther() {
        LineDoubler x = with("t1;i20;t10;o50;t5;>3;<4");
        due("orders", x.carryOut(), 7);
        due("tick of now", x.count(0), 16);
        due("the line at 10 came with IN as 20", x.count(10), 34);
        due("the row at 15 went out with OUT as 50", x.count(11), 68);
    }

    @Sentence("up to the first one that returns an error, and empties the pad.")
    static void promise20UpToTheFirstError() {
        String[] errors = {"i1", "i100", "o0", "o100", "v16=0", "v0=256", "t0", "<0", "<100", ">0", ">100"};
        for (String error : errors) {
            LineDoubler x = with(error + ";t5");
            due(error + " is the first", x.carryOut(), 0);
            due("tick of now", x.count(0), 0);
            due("pad", x.count(24), 0);
            x = with("t7;" + error + ";t5");
            due(error + " is the second", x.carryOut(), 1);
            due("tick of now", x.count(0), 7);
            due("pad", x.count(24), 0);
            x = with("t7;t5;" + error);
            due(error + " is the last", x.carryOut(), 2);
            due("tick of now", x.count(0), 12);
            due("pad", x.count(24), 0);
        }
    }

    @Sentence("up to the first one that returns an error,")
    static void promise20AnswersOf0AreNoErrors() {
        LineDoubler x = with("v0=1;v0=0;v0=0;t2");
        due("orders", x.carryOut(), 4);
        due("tick of now", x.count(0), 2);
    }

    @Sentence("up to the first one that returns an error,")
    static void promise20PassAboveTheLastTickIsAnError() {
        LineDoubler x = Scenes.at(99990);
        Check.type(x, "t9;t1;i3");
        due("orders", x.carryOut(), 1);
        due("tick of now", x.count(0), 99999);
        due("in", x.count(16), 10);
        x.undo();
        Check.type(x, "t10;i3");
        due("orders", x.carryOut(), 0);
        due("tick of now", x.count(0), 99990);
    }

    @Sentence("This is a change (one, with all of them; also if none is carried out).")
    static void promise20IsOneChange() {
        LineDoubler x = with("t1;t2;v3=4;i9;o9;<5;>6;t7");
        due("orders", x.carryOut(), 8);
        due("changes", x.count(25), 1);
        due("undo", x.undo(), 0);
        Check.same("as it was", Check.all(x), Check.all(new LineDoubler()));
        due("the value, too", x.value(3, 0), 30);
    }

    @Sentence("also if none is carried out).")
    static void promise20IsAChangeAlsoIfNoneIsCarriedOut() {
        LineDoubler x = with("t0");
        due("orders", x.carryOut(), 0);
        due("changes", x.count(25), 1);
        due("pad", x.count(24), 0);
        due("undo", x.undo(), 0);
        due("the pad stays empty", x.count(24), 0);
    }

    @Sentence("Returns how many orders were carried out;")
    static void promise20ReturnsHowManyOrders() {
        StringBuilder text = new StringBuilder("t1");
        for (int orders = 1; orders <= 27; orders++) {
            due(orders + " orders", with(text.toString()).carryOut(), orders);
            text.append(";t1");
        }
    }

    @Sentence("BAD_TEXT if the pad has a fault (then it stays).")
    static void promise20BadTextIfThePadHasAFault() {
        LineDoubler x = new LineDoubler();
        due("empty", x.carryOut(), -3);
        Check.type(x, "t5;t");
        due("too early", x.carryOut(), -3);
        due("it stays", x.count(24), 4);
        due("no change", x.count(25), 0);
        due("no tick", x.count(0), 0);
        Check.type(x, "6");
        due("carried out", x.carryOut(), 2);
        due("tick of now", x.count(0), 11);
    }
}
