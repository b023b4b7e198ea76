/** Promises 18 to 26: films by hand, whole and broken ones, and what is asked of them. */
public final class ReadingTest {
    public static void main(String[] args) {
        blocksWhole();
        blocksForetold();
        blocksVectors();
        blocksBetween();
        blocksBroken();
        waves();
        runs();
        asked();
        shownAndBuffer();
        Check.end("ReadingTest");
    }

    private static void samplesAre(House house, int f, int place, int plane, int[] want, int wide) {
        for (int i = 0; i < want.length; i++) {
            int got = house.look(f, place, plane, i % wide, i / wide);
            Check.due("23: film " + f + " place " + place + " plane " + plane + " sample " + i, got, want[i]);
        }
    }

    private static void blocksWhole() {
        House house = new House();
        // DC of the first block; place 1 of the scan in the second; the last place in the fifth.
        Check.Bits bits = Check.bits().code(0)
            .code(1).code(0).signed(2)
            .code(1).code(1).signed(4)
            .empty(2)
            .code(1).code(15).signed(-4)
            .code(2).code(2).signed(4).code(0).signed(4);
        int f = Check.film(house, Check.head(0, 8, 8, 30, 1), Check.picture(0, 0, 4, bits));
        samplesAre(house, f, 0, 0, new int[] {129, 129, 129, 129, 129, 129, 127, 127}, 8);
        Check.due("23: below", house.look(f, 0, 0, 3, 3), 129);
        Check.due("23: a block without levels", house.look(f, 0, 0, 3, 4), 128);
        // -16 at the last place: H has 1 -1 1 -1 there in both directions.
        samplesAre(house, f, 0, 1, new int[] {127, 129, 127, 129, 129, 127, 129, 127}, 4);
        // 16 at place 4 (a row's change of sign) and at place 8 (the third row of H).
        samplesAre(house, f, 0, 2, new int[] {130, 130, 130, 130, 128, 128, 128, 128, 126, 126, 126, 126, 128}, 4);
        int[] facts = {0, 0, 0, 0, 0, 5};
        for (int what = 0; what < facts.length; what++) {
            Check.due("22: fact " + what, house.part(f, 0, 0, what), facts[what]);
        }
        Check.due("22: bits", house.part(f, 0, 0, 6), 1 + (3 + 1 + 5) + (3 + 3 + 7) + 2 + (3 + 9 + 7) + (3 + 3 + 7 + 1 + 7));
        Check.due("21: no rule", house.coded(f, 0, 6), 0);
        Check.due("21: no spot", house.coded(f, 0, 7), -1);
        int g = Check.film(house, Check.head(0, 8, 8, 30, 1),
            Check.picture(0, 0, 31, Check.bits().code(0).code(1).code(0).signed(4095)
                .code(1).code(0).signed(-4095).empty(4)));
        Check.due("23: held to 255", house.look(g, 0, 0, 0, 0), 255);
        Check.due("23: held to 0", house.look(g, 0, 0, 7, 0), 0);
    }

    /** Three by two parts in which each way of I is seen with and without neighbours. */
    private static void blocksForetold() {
        House house = new House();
        Check.Bits bits = Check.bits();
        bits.code(1).code(1).code(0).signed(64).empty(5);
        bits.code(1).empty(6);
        bits.code(2).code(1).code(0).signed(-64).empty(5);
        bits.code(2).empty(6);
        bits.code(0).empty(6);
        bits.code(1).empty(6);
        int f = Check.film(house, Check.head(0, 24, 16, 30, 1), Check.picture(0, 0, 4, bits));
        Check.due("23: LEFT without", house.look(f, 0, 0, 7, 7), 128);
        Check.due("23: its level", house.look(f, 0, 0, 0, 0), 128 + 16);
        Check.due("23: LEFT takes the row's last", house.look(f, 0, 0, 8, 0), 128);
        Check.due("23: ABOVE without", house.look(f, 0, 0, 23, 7), 128);
        Check.due("23: its level", house.look(f, 0, 0, 16, 0), 128 - 16);
        Check.due("23: ABOVE", house.look(f, 0, 0, 0, 8), 128);
        Check.due("23: LEFT of a row", house.look(f, 0, 0, 23, 15), 128);
        Check.Bits mean = Check.bits();
        mean.code(0).empty(2).code(1).code(0).signed(8).empty(3);
        mean.code(0).empty(6);
        mean.code(0).empty(6);
        mean.code(0).empty(6);
        int g = Check.film(house, Check.head(0, 16, 16, 30, 1), Check.picture(0, 0, 8, mean));
        Check.due("23: the level", house.look(g, 0, 0, 0, 7), 132);
        Check.due("23: MEAN of the left: (8 * 128 + 4) / 8", house.look(g, 0, 0, 8, 0), 128);
        Check.due("23: MEAN of the above: (4 * 132 + 4 * 128 + 4) / 8", house.look(g, 0, 0, 0, 8), 130);
        Check.due("23: MEAN of both: (8 * 128 + 8 * 130 + 8) / 16", house.look(g, 0, 0, 15, 15), 129);
    }

    /** An I with a step at x = 4, then a P that looks at it. */
    private static void blocksVectors() {
        House house = new House();
        Check.Bits intra = Check.bits();
        for (int m = 0; m < 2; m++) {
            intra.code(0);
            intra.code(1).code(0).signed(m == 0 ? 40 : 0 + 8).empty(5);
        }
        int step = 4;
        Check.Bits moved = Check.bits();
        moved.code(1).signed(3).signed(-2).empty(6);
        moved.code(0);
        int f = Check.film(house, Check.head(0, 16, 8, 30, 2),
            Check.picture(0, 0, step, intra), Check.picture(1, 1, step, moved));
        int[] way = {1, 0};
        for (int m = 0; m < 2; m++) {
            Check.due("22: way", house.part(f, 1, m, 0), way[m]);
            Check.due("22: x", house.part(f, 1, m, 1), 3);
            Check.due("22: y", house.part(f, 1, m, 2), -2);
            Check.due("22: no backward x", house.part(f, 1, m, 3), 0);
            Check.due("22: no backward y", house.part(f, 1, m, 4), 0);
        }
        Check.due("22: bits of SKIPPED", house.part(f, 1, 1, 6), 1);
        for (int x = 0; x < 16; x++) {
            // x + 1.5, y - 1
            int a = house.look(f, 0, 0, Math.min(15, x + 1), 1);
            int b = house.look(f, 0, 0, Math.min(15, x + 2), 1);
            Check.due("23: half a sample at " + x, house.look(f, 1, 0, x, 2), (a + b + 1) / 2);
        }
        Check.Bits four = Check.bits().code(1).signed(-1).signed(-1).empty(6).code(1).signed(2).signed(17).empty(6);
        int g = Check.film(house, Check.head(0, 16, 8, 30, 2),
            Check.picture(0, 0, step, intra), Check.picture(1, 1, step, four));
        Check.due("22: 2 more than -1", house.part(g, 1, 1, 1), 1);
        Check.due("22: 17 more than -1", house.part(g, 1, 1, 2), 16);
        int sum = house.look(g, 0, 0, 3, 3) + house.look(g, 0, 0, 4, 3) + house.look(g, 0, 0, 3, 4) + house.look(g, 0, 0, 4, 4);
        Check.due("23: between four", house.look(g, 1, 0, 4, 4), (sum + 2) / 4);
        Check.due("23: -1 is halved to 0 in plane 1", house.look(g, 1, 1, 2, 2), house.look(g, 0, 1, 2, 2));
        Check.Bits beyond = Check.bits().code(1).signed(16).signed(0).empty(6).code(1).signed(1);
        int h = Check.film(house, Check.head(0, 16, 8, 30, 2),
            Check.picture(0, 0, step, intra), Check.picture(1, 1, step, beyond));
        Check.due("21: a vector beyond, ahead of y's code", house.coded(h, 1, 6), 3);
        Check.due("21: its spot", house.coded(h, 1, 7), 1);
        int[][] vectors = {{16, 0, 0}, {17, 0, 3}, {-16, 0, 0}, {-17, 0, 3}, {0, 16, 0}, {0, 17, 3}, {0, -16, 0}, {0, -17, 3}};
        for (int[] v : vectors) {
            house.forget();
            Check.Bits bits = Check.bits().code(1).signed(v[0]).signed(v[1]).empty(6).code(0);
            h = Check.film(house, Check.head(0, 16, 8, 30, 2),
                Check.picture(0, 0, step, intra), Check.picture(1, 1, step, bits));
            Check.due("21: a vector of " + v[0] + ", " + v[1], house.coded(h, 1, 6), v[2]);
        }
        house.forget();
        h = Check.film(house, Check.head(0, 16, 8, 30, 2),
            Check.picture(0, 0, step, intra), Check.picture(1, 1, step, beyond));
        Check.due("23: mended as in the latest anchor", house.look(h, 1, 0, 9, 1), house.look(h, 0, 0, 9, 1));
        Check.due("24: mended", house.mended(h, 1, 0, 8, 0), true);
        Check.due("24: not mended", house.mended(h, 1, 0, 7, 7), false);
    }

    /** I 100, P 200, and Bs between. */
    private static void blocksBetween() {
        House house = new House();
        Check.Bits dark = level(-7).empty(0);
        Check.Bits light = Check.bits().code(2).code(1).code(0).signed(18).code(1).code(0).signed(18)
            .code(1).code(0).signed(18).code(1).code(0).signed(18).empty(2);
        Check.Bits both = Check.bits().code(3).signed(2).signed(-2).signed(-16).signed(16).empty(6);
        Check.Bits skipped = Check.bits().code(0);
        Check.Bits forward = Check.bits().code(1).signed(0).signed(0).empty(6);
        Check.Bits backward = Check.bits().code(2).signed(-1).signed(5).empty(6);
        int f = Check.film(house, Check.head(0, 8, 8, 30, 6),
            Check.picture(0, 0, 16, dark), Check.picture(1, 5, 16, light), Check.picture(2, 3, 16, both),
            Check.picture(2, 1, 16, skipped), Check.picture(2, 2, 16, forward), Check.picture(2, 4, 16, backward));
        Check.due("23: I", house.look(f, 0, 0, 0, 0), 121);
        Check.due("23: P", house.look(f, 5, 0, 0, 0), 146);
        int[] want = {121, 134, 121, 134, 146, 146};
        for (int place = 0; place < 6; place++) {
            Check.due("23: place " + place, house.look(f, place, 0, 7, 7), want[place]);
        }
        int[] facts = {3, 2, -2, -16, 16};
        for (int what = 0; what < facts.length; what++) {
            Check.due("22: BOTH has " + what, house.part(f, 2, 0, what), facts[what]);
        }
        int[] back = {2, 0, 0, -1, 5};
        for (int what = 0; what < back.length; what++) {
            Check.due("22: BACKWARD has " + what, house.part(f, 5, 0, what), back[what]);
        }
        Check.due("21: which is at place 4", house.coded(f, 5, 1), 4);
        Check.due("21: B", house.coded(f, 5, 0), 2);
    }

    /** An I of one part, its four upper blocks with one level. */
    private static Check.Bits level(int v) {
        Check.Bits bits = Check.bits().code(0);
        for (int block = 0; block < 4; block++) {
            bits.code(1).code(0).signed(v);
        }
        return bits.empty(2);
    }

    private static void broken(String what, int rule, int spot, int coding, Check.Bits bits) {
        House house = new House();
        int f = Check.film(house, Check.head(coding, 16, 8, 30, 1), Check.picture(0, 0, coding == 0 ? 4 : 0, bits));
        Check.due("21: rule: " + what, house.coded(f, 0, 6), rule);
        Check.due("21: spot: " + what, house.coded(f, 0, 7), spot);
        Check.due("20: with a spot: " + what, house.film(f, 7), rule == 0 ? 0 : 1);
        if (coding == 0) {
            for (int m = 0; m < 2; m++) {
                for (int i = 0; i < 7; i++) {
                    boolean mended = rule != 0 && m >= spot;
                    Check.due("22: -1 of what is mended: " + what, house.part(f, 0, m, i) == -1, mended);
                }
                Check.due("24: " + what, house.mended(f, 0, 0, 8 * m, 0), rule != 0 && m >= spot);
                Check.due("24: " + what, house.mended(f, 0, 2, 4 * m + 3, 3), rule != 0 && m >= spot);
            }
        }
    }

    private static Check.Bits one() {
        return Check.bits().code(0).empty(6);
    }

    private static void blocksBroken() {
        broken("nothing", 0, -1, 0, one().code(0).empty(6));
        broken("no bits", 1, 0, 0, Check.bits());
        broken("the bits end", 1, 1, 0, one().code(0).empty(2).code(1).code(0).raw("00000"));
        broken("the bits end ahead of the 15th", 1, 1, 0, one().raw("0".repeat(9)));
        broken("no such way", 2, 1, 0, one().code(3).empty(6));
        broken("17 levels", 4, 1, 0, one().code(0).code(17));
        broken("a place beyond", 4, 0, 0, Check.bits().code(0).code(1).code(16).signed(1));
        broken("the last place", 0, -1, 0, Check.bits().code(0).code(1).code(15).signed(1).empty(5).code(0).empty(6));
        broken("a place beyond by two", 4, 0, 0, Check.bits().code(0).code(2).code(15).signed(1).code(0).raw("0".repeat(20)));
        broken("a level 0", 5, 0, 0, Check.bits().code(0).code(1).code(0).signed(0));
        broken("a level beyond", 5, 0, 0, Check.bits().code(0).code(1).code(0).signed(4096));
        broken("a level beyond below", 5, 0, 0, Check.bits().code(0).code(1).code(0).signed(-4096));
        broken("eight bits behind", 6, 2, 0, one().code(0).empty(6).raw("0000000000"));
        broken("a 1 behind", 6, 2, 0, one().code(0).empty(6).raw("1"));
        broken("nothing behind", 0, -1, 0, one().code(1).empty(6));
        broken("just eight bits behind", 6, 2, 0, one().code(1).empty(6).raw("00000000"));
        broken("15 zeros", 7, 1, 0, one().raw("0".repeat(15)));
        broken("15 zeros and more", 7, 0, 0, Check.bits().code(0).raw("0".repeat(15)).raw("1".repeat(30)));
        broken("14 zeros", 2, 0, 0, Check.bits().raw("0".repeat(14)).raw("1".repeat(15)));
        House house = new House();
        Check.Bits none = Check.bits();
        int f = Check.film(house, Check.head(0, 8, 8, 30, 4), Check.picture(0, 0, 16, level(-7)),
            Check.picture(0, 1, 16, none), Check.picture(1, 3, 16, level(-8)), Check.picture(2, 2, 16, none));
        Check.due("23: an I behind another is mended as the anchor", house.look(f, 1, 0, 0, 0), 121);
        Check.due("21: a P with I's bits is broken by its ways", house.coded(f, 2, 6) != 0, true);
        Check.due("23: a B is mended as the earlier anchor", house.look(f, 2, 0, 3, 3), 121);
        Check.due("20: three have a spot", house.film(f, 7), 3);
    }

    private static void waves() {
        House house = new House();
        // A flat plane of 8 by 8 has four numbers, one of 4 by 4 has one.
        Check.Bits flat = Check.bits().code(0).signed(40).code(0).signed(40).code(6).signed(40)
            .code(0).signed(40).code(54).code(0).signed(300).code(15).code(0).signed(-9).code(15);
        int f = Check.film(house, Check.head(1, 8, 8, 30, 1), Check.picture(0, 0, 0, flat));
        Check.due("21: whole", house.coded(f, 0, 6), 0);
        for (int i = 0; i < 64; i++) {
            Check.due("23: flat", house.look(f, 0, 0, i % 8, i / 8), 40);
            Check.due("23: held to 255", house.look(f, 0, 1, i % 4, i / 16), 255);
            Check.due("23: held to 0", house.look(f, 0, 2, i % 4, i / 16), 0);
        }
        // One number where a row's last d and a column's first s meet.
        Check.Bits corner = Check.bits().code(64).code(3).signed(8).code(12).code(3).signed(-8).code(12);
        int c = Check.film(house, Check.head(1, 8, 8, 30, 1), Check.picture(0, 0, 0, corner));
        samplesAre(house, c, 0, 1, new int[] {0, 0, 0, 6, 0, 0, 0, 3, 0, 0, 0, 0, 0, 0, 0, 0}, 4);
        samplesAre(house, c, 0, 2, new int[] {0, 1, 2, 0, 0, 0, 1, 0, 0, 0, 0, 0, 0, 0, 0, 0}, 4);
        broken("no bits", 1, 0, 1, Check.bits());
        broken("more 0s than are left", 4, 0, 1, Check.bits().code(129));
        broken("all are 0", 0, -1, 1, Check.bits().code(128).code(32).code(32));
        broken("more 0s in plane 1", 4, 1, 1, Check.bits().code(128).code(0).signed(1).code(32));
        broken("a number 0", 5, 0, 1, Check.bits().code(3).signed(0));
        broken("a number beyond", 5, 2, 1, Check.bits().code(128).code(32).code(31).signed(-4096));
        broken("the last number", 0, -1, 1, Check.bits().code(128).code(32).code(31).signed(-4095));
        broken("the last number above 0", 0, -1, 1, Check.bits().code(128).code(32).code(31).signed(4095));
        broken("a number beyond above 0", 5, 2, 1, Check.bits().code(128).code(32).code(31).signed(4096));
        broken("eight bits behind", 6, 3, 1, Check.bits().code(128).code(32).code(32).raw("0".repeat(12)));
        broken("15 zeros", 7, 1, 1, Check.bits().code(128).raw("0".repeat(15)));
        int g = Check.film(house, Check.head(1, 8, 8, 30, 2), Check.picture(0, 0, 0, flat),
            Check.picture(0, 1, 0, Check.bits().code(64).raw("0".repeat(15))));
        Check.due("23: plane 0 stays", house.look(g, 1, 0, 3, 3), 0);
        Check.due("24: plane 0 stays", house.mended(g, 1, 0, 3, 3), false);
        Check.due("23: plane 1 is mended", house.look(g, 1, 1, 3, 3), 128);
        Check.due("24: plane 2 is mended", house.mended(g, 1, 2, 0, 0), true);
    }

    private static void runs() {
        House house = new House();
        Check.Bits first = Check.bits();
        first.code(3).code(7);
        for (int i = 0; i < 8; i++) {
            first.eight(10 * i);
        }
        first.code(2).code(55);
        first.code(0).code(14).eight(77).code(3).code(0).eight(255);
        first.code(0).code(15).eight(9);
        Check.Bits second = Check.bits();
        second.code(1).code(11).code(0).code(51).eight(200).code(1).code(15);
        second.code(3).code(3).eight(1).eight(2).eight(3).raw("1010");
        int f = Check.film(house, Check.head(2, 8, 8, 30, 3), Check.picture(0, 0, 0, first),
            Check.picture(1, 1, 0, second), Check.picture(0, 2, 0, Check.bits().code(0).code(20).eight(5)));
        samplesAre(house, f, 0, 0, new int[] {0, 10, 20, 30, 40, 50, 60, 70, 0, 10, 20}, 8);
        Check.due("23: DOWN to the end", house.look(f, 0, 0, 7, 7), 70);
        Check.due("23: FILL", house.look(f, 0, 1, 2, 3), 77);
        Check.due("23: TOLD", house.look(f, 0, 1, 3, 3), 255);
        Check.due("23: SAME", house.look(f, 1, 0, 3, 1), 30);
        Check.due("23: behind SAME", house.look(f, 1, 0, 4, 1), 200);
        Check.due("21: the bits end within TOLD", house.coded(f, 1, 6), 1);
        Check.due("21: three were read", house.coded(f, 1, 7), 64 + 16 + 3);
        Check.due("23: these stay", house.look(f, 1, 2, 2, 0), 3);
        Check.due("24: these stay", house.mended(f, 1, 2, 2, 0), false);
        Check.due("23: the others are as in the anchor", house.look(f, 1, 2, 3, 0), 9);
        Check.due("24: the others are mended", house.mended(f, 1, 2, 3, 0), true);
        Check.due("21: an I", house.coded(f, 2, 7), 21);
        Check.due("23: an I is mended by 128", house.look(f, 2, 0, 5, 2), 128);
        Check.due("23: what is there stays", house.look(f, 2, 0, 4, 2), 5);
        broken("no such way", 2, 0, 2, Check.bits().code(4));
        broken("SAME of an I, ahead of the length", 2, 0, 2, Check.bits().code(1));
        broken("a length beyond", 4, 0, 2, Check.bits().code(0).code(128).eight(1));
        broken("a length beyond what is left", 4, 20, 2, Check.bits().code(0).code(19).eight(1).code(0).code(108).eight(1));
        broken("DOWN in the first row, ahead of which its length is read", 7, 0, 2, Check.bits().code(2).raw("0".repeat(15)));
        broken("DOWN in the first row", 4, 15, 2, Check.bits().code(0).code(14).eight(1).code(2).code(0));
        broken("DOWN right below it", 0, -1, 2, Check.bits().code(0).code(15).eight(1).code(2).code(111)
            .code(0).code(31).eight(1).code(0).code(31).eight(1));
        broken("a FILL without its bits", 1, 3, 2, Check.bits().code(0).code(2).eight(1).code(0).code(5).raw("101"));
        broken("a length in the next plane", 4, 128, 2, Check.bits().code(0).code(127).eight(1).code(0).code(32).eight(1));
        broken("a 1 behind", 6, 192, 2, Check.bits().code(0).code(127).eight(1)
            .code(0).code(31).eight(1).code(0).code(31).eight(1).raw("01"));
        broken("15 zeros of a length", 7, 0, 2, Check.bits().code(2).raw("0".repeat(15)));
    }

    private static void asked() {
        House house = new House();
        int f = Check.film(house, Check.head(0, 16, 8, 33, 2),
            Check.picture(0, 0, 9, one().code(0).empty(6)), Check.picture(1, 1, 31, Check.bits().code(0).code(0)));
        int[] film = {0, 16, 8, 33, 2, 7 + 5 + 2 + 5 + 1, 1, 0};
        int[][] coded = {{0, 0, 9, 2, 7, 1, 0, -1}, {1, 1, 31, 1, 14, 0, 0, -1}};
        for (int what = 0; what < 8; what++) {
            Check.due("20: " + what, house.film(f, what), film[what]);
            Check.due("21: " + what, house.coded(f, 0, what), coded[0][what]);
            Check.due("21: " + what, house.coded(f, 1, what), coded[1][what]);
        }
        Check.due("19: bytes", house.bytes(f), 20);
        Check.due("19: the tape", house.tape(16), 31);
        Check.due("18: again", house.read(), 1);
        Check.noSuch("19: film", () -> house.bytes(2));
        Check.noSuch("20: film ahead of what", () -> house.film(2, 8));
        Check.badArgument("20: what", () -> house.film(0, 8));
        Check.badArgument("20: what below 0", () -> house.film(0, -1));
        Check.noSuch("21: film", () -> house.coded(-1, 0, 0));
        Check.noSuch("21: picture ahead of what", () -> house.coded(0, 2, 8));
        Check.noSuch("21: picture below 0", () -> house.coded(0, -1, 0));
        Check.badArgument("21: what", () -> house.coded(0, 0, 8));
        Check.noSuch("22: film", () -> house.part(2, 0, 0, 0));
        Check.noSuch("22: picture", () -> house.part(0, 2, 0, 0));
        Check.noSuch("22: part ahead of what", () -> house.part(0, 0, 2, 7));
        Check.noSuch("22: part below 0", () -> house.part(0, 0, -1, 0));
        Check.badArgument("22: what", () -> house.part(0, 0, 1, 7));
        Check.badArgument("22: what below 0", () -> house.part(0, 0, 1, -1));
        int runs = Check.film(house, Check.head(2, 8, 8, 33, 1), Check.picture(0, 0, 0, Check.bits()));
        Check.noSuch("22: another coding", () -> house.part(runs, 0, 0, 0));
        int[][] places = {{3, 0, 0, 0, 0}, {-1, 0, 0, 0, 0}, {0, 2, 0, 0, 0}, {0, -1, 0, 0, 0}, {0, 0, 3, 0, 0},
            {0, 0, -1, 0, 0}, {0, 0, 0, 16, 0}, {0, 0, 0, 0, 8}, {0, 0, 1, 8, 0}, {0, 0, 2, 0, 4}, {0, 0, 0, -1, 0}};
        for (int[] at : places) {
            Check.noSuch("23: no such sample", () -> house.look(at[0], at[1], at[2], at[3], at[4]));
            Check.noSuch("24: no such sample", () -> house.mended(at[0], at[1], at[2], at[3], at[4]));
        }
        for (int i = 3; i < 8; i++) {
            house.bytes(0);
            Check.due("18: film " + i, house.read(), i);
        }
        house.bytes(0);
        Check.badState("18: a ninth", () -> house.read());
        Check.due("18: the tape stays", house.count(5), 20);
        Check.due("30: forget", house.forget(), 8);
        Check.due("18: the first again", house.read(), 0);
    }

    private static void shownAndBuffer() {
        House house = new House();
        int f = Check.film(house, Check.head(0, 8, 8, 33, 2),
            Check.picture(0, 0, 16, level(-7)), Check.picture(1, 1, 16, Check.bits().code(0)));
        Check.due("25: its number", house.shown(f, 1), 0);
        Check.due("25: its samples", house.sample(0, 0, 7, 7), 121);
        Check.due("25: its samples", house.sample(0, 1, 3, 3), 128);
        house.put(0, 0, 7, 7, 5);
        Check.due("25: the film stays", house.look(f, 1, 0, 7, 7), 121);
        int bits = 8 * house.coded(f, 0, 3);
        Check.due("26: at first", house.buffer(f, 0, 1001, 70), 500 + 70 - bits);
        Check.due("26: then", house.buffer(f, 1, 1001, 70), 500 + 70 - bits + 70 - 8);
        Check.due("26: full", house.buffer(f, 0, 100, 10000), 100 - bits);
        Check.due("26: below 0", house.buffer(f, 0, 100, 50), 100 - bits);
        Check.noSuch("25: film", () -> house.shown(1, 0));
        Check.noSuch("25: place", () -> house.shown(0, 2));
        Check.noSuch("25: place below 0", () -> house.shown(0, -1));
        Check.noSuch("26: film", () -> house.buffer(1, 0, 100, 50));
        Check.noSuch("26: picture ahead of the size", () -> house.buffer(0, 2, 99, 50));
        int[][] bad = {{99, 50}, {20001, 50}, {100, 49}, {100, 10001}, {0, 50}};
        for (int[] pair : bad) {
            Check.badArgument("26: size or flow", () -> house.buffer(0, 0, pair[0], pair[1]));
        }
        while (house.count(0) < 60) {
            house.shown(f, 0);
        }
        Check.badState("25: a 61st", () -> house.shown(f, 0));
        Check.noSuch("25: the place is looked for first", () -> house.shown(f, 2));
    }
}
