/** Promises 1 to 13 and 43: a new object, pictures, the tape, count. */
public final class PicturesTest {
    private static final int FAR = Integer.MAX_VALUE;
    private static final int DEEP = Integer.MIN_VALUE;

    public static void main(String[] args) {
        newObject();
        blank();
        fill();
        noise();
        shift();
        putAndSample();
        size();
        drop();
        feed();
        alterTapeWipe();
        count();
        Check.end("PicturesTest");
    }

    private static void newObject() {
        House house = new House();
        for (int what = 0; what <= 5; what++) {
            Check.due("1: count(" + what + ") of a new object", house.count(what), 0);
        }
        Check.due("1: tape", house.tape(0), -1);
        Check.noSuch("1: no picture", () -> house.sample(0, 0, 0, 0));
        Check.noSuch("1: no film", () -> house.film(0, 0));
        Check.noSuch("1: no filter", () -> house.apply(0, 0, 0));
        Check.badArgument("1: no reel", () -> house.make(0));
        for (int y = 0; y < 4; y++) {
            int player = y;
            Check.badState("1: no player's film", () -> house.tick(player));
        }
        int[] settings = {25, 4, 0, 2, 4, 0, 1000, 0};
        int[] others = {1, 1, 1, 1, 1, 100, 50, 1};
        for (int what = 0; what < 8; what++) {
            Check.due("1: setting " + what, house.set(what, others[what]), settings[what]);
        }
    }

    private static void blank() {
        House house = new House();
        Check.due("2: blank", house.blank(8, 24, 0, 255, 7), 0);
        Check.due("2: blank", house.blank(16, 8, 1, 2, 3), 1);
        Check.due("2: plane 0", house.sample(0, 0, 7, 23), 0);
        Check.due("2: plane 1", house.sample(0, 1, 3, 11), 255);
        Check.due("2: plane 2", house.sample(0, 2, 0, 0), 7);
        Check.due("2: plane 2", house.sample(1, 2, 7, 3), 3);
        int[] sides = {0, 7, 9, 12, 32, -8, FAR, DEEP};
        for (int side : sides) {
            Check.badArgument("2: width " + side, () -> house.blank(side, 8, 1, 1, 1));
            Check.badArgument("2: height " + side, () -> house.blank(8, side, 1, 1, 1));
        }
        int[] values = {-1, 256, FAR, DEEP};
        for (int v : values) {
            Check.badArgument("2: a " + v, () -> house.blank(8, 8, v, 1, 1));
            Check.badArgument("2: b " + v, () -> house.blank(8, 8, 1, v, 1));
            Check.badArgument("2: c " + v, () -> house.blank(8, 8, 1, 1, v));
        }
        for (int p = 2; p < 60; p++) {
            Check.due("2: blank", house.blank(8, 8, 1, 1, 1), p);
        }
        Check.badState("2: a 61st", () -> house.blank(8, 8, 1, 1, 1));
        Check.badArgument("2: the argument is looked at first", () -> house.blank(9, 8, 1, 1, 1));
        Check.due("2: nothing was changed", house.count(0), 60);
    }

    private static void fill() {
        House house = new House();
        house.blank(16, 8, 1, 2, 3);
        Check.due("3: inside", house.fill(0, 0, 3, 2, 4, 5, 200), 20);
        Check.due("3: first", house.sample(0, 0, 3, 2), 200);
        Check.due("3: last", house.sample(0, 0, 6, 6), 200);
        Check.due("3: right of it", house.sample(0, 0, 7, 6), 1);
        Check.due("3: below it", house.sample(0, 0, 6, 7), 1);
        Check.due("3: left of it", house.sample(0, 0, 2, 2), 1);
        Check.due("3: beyond on all sides", house.fill(0, 1, -5, -5, 100, 100, 9), 32);
        Check.due("3: other planes stay", house.sample(0, 2, 0, 0), 3);
        Check.due("3: a corner", house.fill(0, 2, -1, -1, 2, 2, 77), 1);
        Check.due("3: a corner", house.sample(0, 2, 0, 0), 77);
        Check.due("3: nothing wide", house.fill(0, 0, 0, 0, 0, 5, 9), 0);
        Check.due("3: outside", house.fill(0, 0, 16, 0, 5, 5, 9), 0);
        Check.due("3: far away", house.fill(0, 0, FAR, FAR, FAR, FAR, 9), 0);
        Check.due("3: from far away", house.fill(0, 0, DEEP, DEEP, FAR, FAR, 9), 0);
        Check.due("3: from afar and large", house.fill(0, 0, -10, -10, FAR, FAR, 9), 128);
        Check.noSuch("3: picture", () -> house.fill(1, 0, 0, 0, 1, 1, 1));
        Check.noSuch("3: picture below 0", () -> house.fill(-1, 0, 0, 0, 1, 1, 1));
        Check.noSuch("3: plane ahead of v", () -> house.fill(0, 3, 0, 0, 1, 1, 256));
        Check.noSuch("3: plane below 0", () -> house.fill(0, -1, 0, 0, 1, 1, 1));
        Check.badArgument("3: v", () -> house.fill(0, 0, 0, 0, 1, 1, 256));
        Check.badArgument("3: v below 0", () -> house.fill(0, 0, 0, 0, 1, 1, -1));
        Check.badArgument("3: w below 0", () -> house.fill(0, 0, 0, 0, -1, 1, 1));
        Check.badArgument("3: h below 0", () -> house.fill(0, 0, 0, 0, 1, -1, 1));
    }

    private static void noise() {
        House house = new House();
        house.blank(8, 8, 100, 3, 250);
        int[] base = {100, 3, 250};
        int[] amounts = {40, 255, 9};
        for (int plane = 0; plane < 3; plane++) {
            house.noise(0, plane, -77L * plane + 5, amounts[plane]);
            long s = -77L * plane + 5;
            int side = plane == 0 ? 8 : 4;
            for (int i = 0; i < side * side; i++) {
                s = s * 6364136223846793005L + 1442695040888963407L;
                long v = base[plane] + (s >>> 33) % (2 * amounts[plane] + 1) - amounts[plane];
                v = Math.max(0, Math.min(255, v));
                Check.due("4: noise", house.sample(0, plane, i % side, i / side), v);
            }
        }
        int was = house.sample(0, 0, 4, 4);
        house.noise(0, 0, 99L, 0);
        Check.due("4: no amount", house.sample(0, 0, 4, 4), was);
        Check.noSuch("4: picture", () -> house.noise(1, 0, 1L, 1));
        Check.noSuch("4: plane ahead of the amount", () -> house.noise(0, 3, 1L, -1));
        Check.badArgument("4: amount", () -> house.noise(0, 0, 1L, 256));
        Check.badArgument("4: amount below 0", () -> house.noise(0, 0, 1L, -1));
    }

    private static void shift() {
        House house = new House();
        house.blank(8, 16, 0, 0, 0);
        for (int i = 0; i < 128; i++) {
            house.put(0, 0, i % 8, i / 8, i);
        }
        for (int i = 0; i < 32; i++) {
            house.put(0, 1, i % 4, i / 4, i);
            house.put(0, 2, i % 4, i / 4, 100 + i);
        }
        Check.due("5: its number", house.shift(0, 3, -1), 1);
        Check.due("5: from the left, from below", house.sample(1, 0, 5, 4), 5 * 8 + 2);
        Check.due("5: beyond the left side", house.sample(1, 0, 1, 4), 5 * 8);
        Check.due("5: beyond the lower side", house.sample(1, 0, 7, 15), 15 * 8 + 4);
        Check.due("5: plane 1 by 1, 0", house.sample(1, 1, 2, 3), 3 * 4 + 1);
        Check.due("5: -1 / 2 is 0", house.sample(1, 2, 0, 7), 100 + 28);
        Check.due("5: -3 / 2 is -1", house.shift(0, -3, -3), 2);
        Check.due("5: plane 2", house.sample(2, 2, 1, 1), 100 + 2 * 4 + 2);
        Check.due("5: far", house.shift(0, 1000, -1000), 3);
        Check.due("5: far", house.sample(3, 0, 7, 0), 15 * 8);
        Check.due("5: far the other way", house.shift(0, -1000, 1000), 4);
        Check.due("5: far the other way", house.sample(4, 0, 0, 15), 7);
        Check.due("5: the old one stays", house.sample(0, 0, 1, 0), 1);
        Check.due("5: size", house.size(3, 1), 16);
        Check.noSuch("5: picture ahead of dx", () -> house.shift(5, 1001, 0));
        Check.badArgument("5: dx", () -> house.shift(0, 1001, 0));
        Check.badArgument("5: dx below", () -> house.shift(0, -1001, 0));
        Check.badArgument("5: dy", () -> house.shift(0, 0, 1001));
        Check.badArgument("5: dy below", () -> house.shift(0, 0, -1001));
        Check.badArgument("5: dy far below", () -> house.shift(0, 0, DEEP));
        while (house.count(0) < 60) {
            house.shift(0, 0, 0);
        }
        Check.badState("5: a 61st", () -> house.shift(0, 0, 0));
        Check.badArgument("5: dx ahead of room", () -> house.shift(0, 1001, 0));
    }

    private static void putAndSample() {
        House house = new House();
        house.blank(24, 8, 1, 2, 3);
        Check.due("6: what it was", house.put(0, 0, 23, 7, 255), 1);
        Check.due("6: what it was", house.put(0, 0, 23, 7, 0), 255);
        Check.due("6: plane 2", house.put(0, 2, 11, 3, 9), 3);
        Check.due("7: plane 2", house.sample(0, 2, 11, 3), 9);
        Check.due("7: plane 1", house.sample(0, 1, 11, 3), 2);
        int[][] places = {{1, 0, 0, 0}, {-1, 0, 0, 0}, {0, 3, 0, 0}, {0, -1, 0, 0}, {0, 0, 24, 0},
            {0, 0, -1, 0}, {0, 0, 0, 8}, {0, 0, 0, -1}, {0, 1, 12, 0}, {0, 2, 0, 4}, {0, 0, FAR, DEEP}};
        for (int[] at : places) {
            Check.noSuch("6: no such sample", () -> house.put(at[0], at[1], at[2], at[3], 256));
            Check.noSuch("7: no such sample", () -> house.sample(at[0], at[1], at[2], at[3]));
        }
        Check.badArgument("6: v", () -> house.put(0, 0, 0, 0, 256));
        Check.badArgument("6: v below 0", () -> house.put(0, 0, 0, 0, -1));
        Check.due("6: nothing was changed", house.sample(0, 0, 0, 0), 1);
    }

    private static void size() {
        House house = new House();
        house.blank(24, 16, 1, 2, 3);
        Check.due("8: width", house.size(0, 0), 24);
        Check.due("8: height", house.size(0, 1), 16);
        Check.noSuch("8: picture ahead of what", () -> house.size(1, 2));
        Check.badArgument("8: what", () -> house.size(0, 2));
        Check.badArgument("8: what below 0", () -> house.size(0, -1));
    }

    private static void drop() {
        House house = new House();
        for (int i = 0; i < 5; i++) {
            house.blank(8, 8, i, i, i);
        }
        Check.due("9: none go", house.drop(5), 5);
        Check.due("9: none go", house.drop(FAR), 5);
        Check.due("9: two go", house.drop(3), 3);
        Check.noSuch("9: gone", () -> house.size(3, 0));
        Check.due("9: the others stay", house.sample(2, 0, 0, 0), 2);
        Check.due("9: the number comes again", house.blank(16, 8, 9, 9, 9), 3);
        Check.due("9: another size", house.sample(3, 0, 15, 7), 9);
        Check.badArgument("9: below 0", () -> house.drop(-1));
        Check.due("9: all go", house.drop(0), 0);
    }

    private static void feed() {
        House house = new House();
        Check.due("10: three", house.feed(0x7766554433221100L, 3), 3);
        Check.due("10: eight", house.feed(-2L, 8), 11);
        int[] want = {0, 0x11, 0x22, 254, 255, 255, 255, 255, 255, 255, 255, -1};
        for (int i = 0; i < want.length; i++) {
            Check.due("10: the lowest first", house.tape(i), want[i]);
        }
        Check.badArgument("10: none", () -> house.feed(0, 0));
        Check.badArgument("10: nine", () -> house.feed(0, 9));
        Check.badArgument("10: below 0", () -> house.feed(0, -1));
        int[] had = {3992, 3993, 3999, 3999, 4000, 4000};
        int[] more = {8, 8, 1, 2, 1, 8};
        for (int i = 0; i < had.length; i++) {
            fullTape(had[i], more[i]);
        }
    }

    /** "there would be more than 4000". */
    private static void fullTape(int had, int more) {
        House house = new House();
        for (int i = 0; i < had / 8; i++) {
            house.feed(i, 8);
        }
        for (int i = 0; i < had % 8; i++) {
            house.feed(i, 1);
        }
        if (had + more <= 4000) {
            Check.due("10: " + more + " behind " + had, house.feed(77, more), had + more);
            Check.due("10: the first of them", house.tape(had), 77);
        } else {
            Check.badState("10: " + more + " behind " + had, () -> house.feed(77, more));
            Check.due("10: nothing was changed", house.count(5), had);
        }
    }

    private static void alterTapeWipe() {
        House house = new House();
        Check.noSuch("11: none", () -> house.alter(0, 1));
        house.feed(0xC8, 2);
        Check.due("11: what it was", house.alter(0, 0x1FF), 200);
        Check.due("11: the lowest eight bits", house.alter(0, -2), 255);
        Check.due("12: a byte", house.tape(0), 254);
        Check.due("12: the other", house.tape(1), 0);
        Check.noSuch("11: behind", () -> house.alter(2, 1));
        Check.noSuch("11: below 0", () -> house.alter(-1, 1));
        Check.due("12: behind", house.tape(2), -1);
        Check.due("12: below 0", house.tape(-1), -1);
        Check.due("12: far", house.tape(FAR), -1);
        Check.due("12: far below", house.tape(DEEP), -1);
        Check.due("13: how many", house.wipe(), 2);
        Check.due("13: none", house.wipe(), 0);
        Check.due("13: none is there", house.tape(0), -1);
    }

    private static void count() {
        House house = new House();
        house.blank(8, 8, 1, 2, 3);
        house.blank(8, 8, 1, 2, 3);
        house.reel(0);
        house.make(0);
        house.make(2);
        house.make(1);
        Check.text(house, "x");
        house.filter();
        for (int i = 0; i < 4; i++) {
            house.row(0, 0, 0);
        }
        house.feed(0, 5);
        int[] want = {2, 3, 1, 1, 4, 5};
        for (int what = 0; what < 6; what++) {
            Check.due("43: count(" + what + ")", house.count(what), want[what]);
        }
        Check.badArgument("43: what", () -> house.count(6));
        Check.badArgument("43: what below 0", () -> house.count(-1));
    }
}
