/** Promises 31 and 32: filters. */
public final class FiltersTest {
    public static void main(String[] args) {
        values();
        wrongBytes();
        depth();
        limits();
        Check.end("FiltersTest");
    }

    private static final House HOUSE = new House();

    /** What a text makes of one sample, by a house of its own. */
    private static int value(String text, int plane, int x, int y, int t) {
        House house = new House();
        house.blank(16, 8, 0, 0, 0);
        for (int i = 0; i < 128; i++) {
            house.put(0, 0, i % 16, i / 16, i);
        }
        for (int i = 0; i < 32; i++) {
            house.put(0, 1, i % 8, i / 8, 100 + i);
            house.put(0, 2, i % 8, i / 8, 200 + i);
        }
        Check.text(house, text);
        Check.due("31: " + text, house.filter(), 0);
        Check.due("31: the tape is empty", house.count(5), 0);
        Check.due("32: its number", house.apply(0, 0, t), 1);
        Check.due("32: the old one stays", house.sample(0, 0, 5, 5), 85);
        return house.sample(1, plane, x, y);
    }

    private static void values() {
        Check.due("32: x", value("x", 0, 13, 7, 0), 13);
        Check.due("32: y", value("y", 0, 13, 7, 0), 7);
        Check.due("32: w", value("w", 0, 3, 3, 0), 16);
        Check.due("32: w of plane 1", value("w", 1, 3, 3, 0), 8);
        Check.due("32: h", value("h", 0, 3, 3, 0), 8);
        Check.due("32: h of plane 2", value("h", 2, 3, 3, 0), 4);
        Check.due("32: n", value("n", 2, 3, 3, 0), 2);
        Check.due("32: t", value("t", 1, 3, 3, 77), 77);
        Check.due("32: s", value("s", 1, 3, 1, 0), 111);
        Check.due("32: a number", value("00123", 1, 3, 1, 0), 123);
        Check.due("32: held", value("99999", 1, 3, 1, 0), 255);
        Check.due("32: held", value("-1", 1, 3, 1, 0), 0);
        Check.due("32: from the left on", value("100 - 50 - 20", 0, 0, 0, 0), 30);
        Check.due("32: * ahead of +", value("2 + 3 * 4", 0, 0, 0, 0), 14);
        Check.due("32: brackets", value("( 2 + 3 )*4", 0, 0, 0, 0), 20);
        Check.due("32: / and * from the left on", value("7/2*2", 0, 0, 0, 0), 6);
        Check.due("32: towards 0", value("10+ -7/2", 0, 0, 0, 0), 7);
        Check.due("32: % towards 0", value("10+ -7%4", 0, 0, 0, 0), 7);
        Check.due("32: / by 0", value("5+s/0", 0, 3, 0, 0), 5);
        Check.due("32: % by 0", value("5+s%0", 0, 3, 0, 0), 5);
        Check.due("32: - of -", value("--9", 0, 3, 0, 0), 9);
        Check.due("32: - of F alone", value("-3+10", 0, 3, 0, 0), 7);
        Check.due("32: wraps", value("t+t+7", 0, 3, 0, Integer.MIN_VALUE), 7);
        Check.due("32: the least / -1", value("t/-1", 0, 3, 0, Integer.MIN_VALUE), 0);
        Check.due("32: the least % -1", value("3+t%-1", 0, 3, 0, Integer.MIN_VALUE), 3);
        Check.due("32: a", value("a(2,-1)", 0, 3, 2, 0), 16 + 5);
        Check.due("32: a beyond", value("a(-9,99)", 1, 3, 1, 0), 124);
        Check.due("32: a far beyond", value("a(t,-t)", 1, 3, 1, Integer.MAX_VALUE), 107);
        Check.due("32: a doesn't wrap", value("a(t,t)", 0, 3, 1, Integer.MIN_VALUE), 0);
        Check.due("32: m", value("m(x,y)", 0, 3, 2, 0), 2);
        Check.due("32: M", value("M ( x , y )", 0, 3, 2, 0), 3);
        Check.due("32: i", value("i(x%2,10,20)", 0, 3, 2, 0), 10);
        Check.due("32: i of 0", value("i(x%2,10,20)", 0, 4, 2, 0), 20);
        Check.due("32: i below 0", value("i(-1,10,s/0)", 0, 4, 2, 0), 10);
    }

    private static void wrong(String text, int place) {
        Check.text(HOUSE, text);
        Check.due("31: wrong in '" + text + "'", HOUSE.filter(), -1 - place);
        Check.due("31: the tape is empty", HOUSE.count(5), 0);
    }

    private static void wrongBytes() {
        wrong("", 0);
        wrong("   ", 3);
        wrong("+x", 0);
        wrong("x+", 2);
        wrong("x x", 2);
        wrong("1 2", 2);
        wrong("x)", 1);
        wrong("(x", 2);
        wrong("()", 1);
        wrong("a x", 2);
        wrong("a(x)", 3);
        wrong("m(x,y,x)", 5);
        wrong("i(x,y)", 5);
        wrong("123456", 5);
        wrong("1234567", 5);
        wrong("x**y", 2);
        wrong("X", 0);
        wrong("x\0", 1);
        wrong("x\u00ff", 1);
        wrong("\tx", 0);
        wrong("s < 3", 2);
        Check.due("31: none came", HOUSE.count(2), 0);
    }

    private static void depth() {
        House house = new House();
        String[] twelve = {"(".repeat(12) + "x" + ")".repeat(12), "-".repeat(12) + "x",
            "-(".repeat(6) + "x" + ")".repeat(6), "a(1,".repeat(12) + "x" + ")".repeat(12),
            "(".repeat(11) + "-x-(x)" + ")".repeat(11)};
        for (int i = 0; i < twelve.length; i++) {
            Check.text(house, twelve[i]);
            Check.due("31: " + twelve[i], house.filter(), i);
        }
        wrong("(".repeat(13) + "x" + ")".repeat(13), 12);
        wrong("-".repeat(13) + "x", 12);
        wrong("(".repeat(12) + "m(x,y)" + ")".repeat(12), 13);
        wrong("(".repeat(12) + "-x" + ")".repeat(12), 12);
        wrong("(".repeat(12) + "m x" + ")".repeat(12), 14);
    }

    private static void limits() {
        House house = new House();
        house.blank(8, 8, 1, 2, 3);
        Check.text(house, "x" + "+1".repeat(99) + " ");
        Check.due("31: 200 bytes", house.filter(), 0);
        wrong("x" + "+1".repeat(99) + "  ", 200);
        wrong("x" + "+1".repeat(100), 200);
        wrong("x" + "+1".repeat(60) + "?" + " ".repeat(100), 121);
        Check.due("31: a filter of 200 bytes", house.apply(0, 0, 0), 1);
        Check.due("31: a filter of 200 bytes", house.sample(1, 0, 5, 0), 104);
        for (int q = 1; q < 8; q++) {
            Check.text(house, "" + q);
            Check.due("31: its number", house.filter(), q);
        }
        house.feed('x', 1);
        Check.badState("31: a ninth", () -> house.filter());
        Check.due("31: nothing was changed", house.count(5), 1);
        Check.due("32: of the third", house.apply(3, 1, 0), 2);
        Check.due("32: of the third", house.sample(2, 2, 3, 3), 3);
        house.forget();
        Check.due("32: filters aren't forgotten", house.count(2), 8);
        Check.noSuch("32: filter", () -> house.apply(8, 0, 0));
        Check.noSuch("32: filter below 0", () -> house.apply(-1, 0, 0));
        Check.noSuch("32: picture", () -> house.apply(0, 3, 0));
        Check.noSuch("32: picture below 0", () -> house.apply(0, -1, 0));
        while (house.count(0) < 60) {
            house.blank(8, 8, 1, 2, 3);
        }
        Check.badState("32: a 61st", () -> house.apply(0, 0, 0));
        Check.noSuch("32: the filter is looked for first", () -> house.apply(9, 0, 0));
    }
}
