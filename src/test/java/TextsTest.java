/** Promises 17 to 20: put, wipe, fault, carryOut. */
public final class TextsTest {
    public static void main(String[] args) throws Exception {
        Check.run(TextsTest.class);
    }

    private static void due(String call, long got, long want) {
        Check.due(call, got, want);
    }

    private static LineDoubler with(String text) {
        LineDoubler x = new LineDoubler();
        Check.type(x, text);
        return x;
    }

    static void promise17PutReadsCharacters() {
        LineDoubler x = new LineDoubler();
        due("one", x.put('t'), 1);
        due("two more", x.put(Check.packed("12")), 3);
        due("eight more", x.put(Check.packed(";o9;i33;")), 11);
        due("and two", x.put(Check.packed("t4")), 13);
        due("length", x.count(24), 13);
        due("no history", x.count(25), 0);
        due("carryOut", x.carryOut(), 4);
        due("tick", x.count(0), 16);
        due("out", x.count(17), 9);
        due("in", x.count(16), 33);
    }

    static void promise17PutRefuses() {
        LineDoubler x = with("i5");
        String before = Check.all(x);
        due("none", x.put(0), -2);
        due("none, but above", x.put(0x4100), -2);
        due("a hole", x.put(0x4100000041L), -2);
        due("a hole under the top bit", x.put(Long.MIN_VALUE | 0x41), -2);
        due("a bit in the top", x.put(0x0100000000000041L), -2);
        due("32", x.put(32), -2);
        due("127", x.put(127), -2);
        due("255", x.put(255), -2);
        due("1", x.put(1), -2);
        due("-1", x.put(-1), -2);
        due("32 in the middle", x.put(0x412041), -2);
        due("127 on top", x.put(0x7f41414141414141L), -2);
        due("128 on top", x.put(0x8041414141414141L), -2);
        due("32 on top", x.put(0x2041414141414141L), -2);
        Check.same("after errors", Check.all(x), before);
        due("33", x.put(33), 3);
        due("126", x.put(126), 4);
        due("eight", x.put(0x7e21414141414141L), 12);
    }

    static void promise17PutHasRoomFor80() {
        LineDoubler x = new LineDoubler();
        for (int i = 1; i <= 9; i++) {
            due("eight more", x.put(Check.packed("aaaaaaaa")), 8 * i);
        }
        due("76", x.put(Check.packed("aaaa")), 76);
        due("81", x.put(Check.packed("aaaaa")), -4);
        due("the characters first", x.put(Check.packed("aaaaaaa ")), -2);
        due("still", x.count(24), 76);
        due("80", x.put(Check.packed("aaaa")), 80);
        due("81", x.put('a'), -4);
        due("none first", x.put(0), -2);
        due("wipe", x.wipe(), 80);
        due("1", x.put('a'), 1);
    }

    static void promise18Wipe() {
        LineDoubler x = with("i5;o");
        due("wipe", x.wipe(), 4);
        due("length", x.count(24), 0);
        due("again", x.wipe(), 0);
        due("fault", x.fault(), 0);
        due("no history", x.count(25), 0);
        Check.type(x, "t1");
        due("fault", x.fault(), -6);
    }

    static void promise19RightTexts() {
        String[] texts = {"i5", "o0", "t999", "<10", ">99", "v0=0", "v999=999", "i1;o2;v3=4;t5;<6;>7", "t0;t0", "v15=255;i2"};
        for (String text : texts) {
            due(text, Check.faultOf(text), -6);
        }
    }

    static void promise19Faults() {
        Object[][] texts = {{"", 0}, {"i", 1}, {"i5;", 3}, {"5", 0}, {"x5", 0}, {"i05", 2}, {"i00", 2}, {"i1000", 4},
            {"i9990", 4}, {"i-1", 1}, {"i5;;", 3}, {";i5", 0}, {"i5o5", 2}, {"v5", 2}, {"v5;", 2}, {"v=5", 1},
            {"v5=", 3}, {"v5=;", 3}, {"v1000=5", 4}, {"v00=1", 2}, {"v5=00", 4}, {"v5=1000", 6}, {"v5=1=2", 4},
            {"i5=1", 2}, {"t1;v2=3;x", 8}, {"t1;v2=3;<", 9}, {"t1;v2=3;<!", 9}, {"I5", 0}, {"<<", 1}, {"ii", 1},
            {"t12t", 3}, {"t12/", 3}, {"t12:", 3}, {"t/", 1}, {"t:", 1}, {"t1,t2", 2}};
        for (Object[] text : texts) {
            due((String) text[0], Check.faultOf((String) text[0]), (Integer) text[1]);
        }
    }

    static void promise19FaultsOfALongText() {
        String orders = "t1;t1;t1;t1;t1;t1;t1;t1;t1;t1;t1;t1;t1;t1;t1;t1;t1;t1;t1;t1;t1;t1;t1;t1;t1;t1;";
        due("78 characters", orders.length(), 78);
        due("ends too early", Check.faultOf(orders), 78);
        due("80 characters", Check.faultOf(orders + "o2"), -6);
        due("the last one", Check.faultOf(orders + "oo"), 79);
        due("ends at 80", Check.faultOf(orders + "o" + ">"), 79);
        LineDoubler x = with(orders + "o2");
        String before = Check.all(x);
        x.fault();
        Check.same("nothing changes", Check.all(x), before);
        due("all", x.carryOut(), 27);
        due("ticks", x.count(0), 26);
        due("out", x.count(17), 2);
    }

    static void promise20Orders() {
        LineDoubler x = with("i22;o33;v4=44;t5;<6;>77");
        due("orders", x.carryOut(), 6);
        due("in", x.count(16), 22);
        due("out", x.count(17), 33);
        due("tick", x.count(0), 5);
        due("next line", x.count(10), 28);
        due("next row", x.count(11), 110);
        due("pad", x.count(24), 0);
        due("one change", x.count(25), 1);
        due("value", x.value(4, 0), 44);
        x.undo();
        due("undo", x.undo(), 0);
        due("in", x.count(16), 10);
        due("out", x.count(17), 5);
        due("tick", x.count(0), 0);
        due("next line", x.count(10), 0);
        due("next row", x.count(11), 0);
        due("value", x.value(4, 0), 40);
        due("the pad stays empty", x.count(24), 0);
    }

    static void promise20AnAnswerOf0IsNoError() {
        LineDoubler x = with("v0=0;v0=5;t3");
        due("orders", x.carryOut(), 3);
        due("tick", x.count(0), 3);
        due("value", x.value(0, 0), 5);
    }

    static void promise20EndsAtAnError() {
        Object[][] texts = {{"i1;t5", 0}, {"t5;i100;t5", 1}, {"o0", 0}, {"t1;o100", 1}, {"v16=0", 0}, {"v0=256", 0},
            {"v15=255;v999=999;t9", 1}, {"t0", 0}, {"<0", 0}, {">0", 0}, {"<100", 0}, {">100;t1", 0}, {"<99;>99;>100", 2}};
        for (Object[] text : texts) {
            LineDoubler x = with((String) text[0]);
            due((String) text[0], x.carryOut(), (Integer) text[1]);
            due("pad", x.count(24), 0);
            due("one change", x.count(25), 1);
        }
        LineDoubler x = with("t5;i100;t5");
        x.carryOut();
        due("tick", x.count(0), 5);
        due("in", x.count(16), 10);
    }

    static void promise20EndsAtTheLastTick() {
        LineDoubler x = new LineDoubler();
        for (int i = 0; i < 100; i++) {
            x.pass(999);
        }
        Check.type(x, "t90;t10;t9");
        due("one order", x.carryOut(), 1);
        due("tick", x.count(0), 99990);
    }

    static void promise20BadText() {
        LineDoubler x = new LineDoubler();
        due("empty", x.carryOut(), -3);
        Check.type(x, "t5;");
        String before = Check.all(x);
        due("too early", x.carryOut(), -3);
        Check.same("after errors", Check.all(x), before);
        Check.type(x, "t6");
        due("orders", x.carryOut(), 2);
        due("tick", x.count(0), 11);
    }

    static void promise20IsOneChangeAlsoIfNoneIsCarriedOut() {
        LineDoubler x = new LineDoubler();
        x.pass(7);
        Check.type(x, "t0;t1");
        due("none", x.carryOut(), 0);
        due("changes", x.count(25), 2);
        due("undo", x.undo(), 1);
        due("tick", x.count(0), 7);
        due("undo", x.undo(), 0);
        due("tick", x.count(0), 0);
    }
}
