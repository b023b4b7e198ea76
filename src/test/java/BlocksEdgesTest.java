/** Terms 2 and 3: where codes, ways, vectors, levels and bits of BLOCKS end, and what is mended then. */
public final class BlocksEdgesTest {
    private static final int I = 0;
    private static final int P = 1;
    private static final int B = 2;

    public static void main(String[] args) {
        longestCode();
        bitsEndInACode();
        bitsEndAnywhere();
        tail();
        ways();
        howManyLevels();
        placesOfTheScan();
        eachPlaceOfTheScan();
        levels();
        codesOfLevels();
        vectors();
        vectorsByTheLeft();
        noVectorOnTheLeft();
        ahead();
        restRounded();
        restHeld();
        steps();
        foretoldAtTheSides();
        foretoldInAllKinds();
        foretoldRowByRow();
        meanRounded();
        bothRounded();
        beyondThePlane();
        halvesRounded();
        mendedFrom();
        mendedParts();
        mendedNothingElse();
        Check.end("BlocksEdgesTest");
    }

    private static Check.Bits bits() {
        return Check.bits();
    }

    private static Check.Bits flat(int parts) {
        Check.Bits flat = bits();
        for (int m = 0; m < parts; m++) {
            flat.code(0).empty(6);
        }
        return flat;
    }

    /** A film whose last picture in the order of coding is of a kind and has these bits. */
    private static int[] filmOf(int kind, int width, int step, Check.Bits last) {
        int[] first = Check.picture(I, 0, 1, flat(width / 8));
        if (kind == I) {
            return Check.join(Check.head(0, width, 8, 25, 1), Check.picture(I, 0, step, last));
        }
        if (kind == P) {
            return Check.join(Check.head(0, width, 8, 25, 2), first, Check.picture(P, 1, step, last));
        }
        return Check.join(Check.head(0, width, 8, 25, 3), first, Check.picture(I, 2, 1, flat(width / 8)),
            Check.picture(B, 1, step, last));
    }

    private static void judged(String what, int kind, int width, Check.Bits last, int rule, int spot) {
        House house = new House();
        int f = Check.film(house, filmOf(kind, width, 1, last));
        int k = house.film(f, 4) - 1;
        Check.due("21: rule: " + what, house.coded(f, k, 6), rule);
        Check.due("21: spot: " + what, house.coded(f, k, 7), spot);
        Check.due("20: with a spot: " + what, house.film(f, 7), rule == 0 ? 0 : 1);
    }

    private static void broken(String what, Check.Bits last, int rule) {
        judged(what, I, 8, last, rule, rule == 0 ? -1 : rule == 6 ? 1 : 0);
    }

    /** "A code with more than 14 zeros ahead is none (at the 15th": RULE 7. */
    private static void longestCode() {
        broken("14 zeros and 15 digits are a code", bits().code(32766), 2);
        broken("the least of 14 zeros", bits().code(16383), 2);
        broken("15 zeros are none", bits().raw("0".repeat(15)).raw("1".repeat(17)), 7);
        broken("16 zeros are none", bits().raw("0".repeat(16)).raw("1".repeat(16)), 7);
        broken("of how many levels", bits().code(0).raw("0".repeat(15)).raw("1".repeat(16)), 7);
        broken("of how many levels, 14", bits().code(0).code(32766), 4);
        broken("of the scan", bits().code(0).code(1).raw("0".repeat(15)).raw("1".repeat(16)), 7);
        broken("of the scan, 14", bits().code(0).code(1).code(32766), 4);
        broken("of a level", bits().code(0).code(1).code(0).raw("0".repeat(15)).raw("1".repeat(16)), 7);
        broken("of a level, 14", bits().code(0).code(1).code(0).code(32766), 5);
        judged("of a vector", P, 8, bits().code(1).raw("0".repeat(15)).raw("1".repeat(16)), 7, 0);
        judged("of a vector, 14", P, 8, bits().code(1).code(32766), 3, 0);
        judged("of a vector's y", P, 8, bits().code(1).signed(0).raw("0".repeat(15)).raw("1".repeat(16)), 7, 0);
    }

    /** "(at the 15th; if the bits end ahead of that, they end)": RULE 1. The bits fill whole bytes here. */
    private static void bitsEndInACode() {
        broken("the 15th zero is the last bit", bits().code(0).raw("0".repeat(15)), 7);
        broken("the 14th zero is the last bit", bits().code(0).empty(1).raw("0".repeat(14)), 1);
        broken("the first zero is the last bit", bits().code(0).empty(3).code(1).raw("0"), 1);
        broken("the 1 behind 14 zeros is the last bit", bits().code(0).raw("0".repeat(14)).raw("1"), 1);
        broken("all digits but one", bits().code(0).empty(3).raw("0".repeat(14)).raw("1".repeat(14)), 1);
        broken("all digits", bits().code(0).empty(2).raw("0".repeat(14)).raw("1".repeat(15)), 4);
    }

    /** RULE "1 the bits end": ahead of each code of a part. */
    private static void bitsEndAnywhere() {
        broken("no bits at all", bits(), 1);
        judged("no bits at all of P", P, 8, bits(), 1, 0);
        judged("no bits at all of B", B, 8, bits(), 1, 0);
        broken("ahead of how many levels", bits().code(1).empty(5), 1);
        broken("ahead of the scan", bits().code(1).empty(2).code(1), 1);
        broken("ahead of the level", bits().code(0).empty(3).code(1).code(0), 1);
        judged("ahead of x", P, 8, bits().raw("01000000"), 1, 0);
        judged("ahead of y", P, 8, bits().code(1).signed(2), 1, 0);
        judged("in the second part, which is the spot", I, 16, bits().code(0).empty(6).code(0), 1, 1);
        judged("in the third part", I, 24, bits().code(0).empty(6).code(0).empty(6).code(0).empty(1), 1, 2);
        judged("behind the third part", I, 24, flat(3), 0, -1);
    }

    /** "then less than eight bits, all 0": RULE 6, whose SPOT is "how many parts there are". */
    private static void tail() {
        judged("no bit behind", I, 16, bits().code(0).empty(6).code(1).empty(6), 0, -1);
        judged("eight bits behind", I, 16, bits().code(0).empty(6).code(1).empty(6).raw("00000000"), 6, 2);
        judged("eight bits behind, one of them 1", I, 16, bits().code(0).empty(6).code(1).empty(6).raw("00000001"), 6, 2);
        broken("one bit behind", bits().code(0).empty(6).raw("0"), 0);
        broken("one bit behind that is 1", bits().code(0).empty(6).raw("1"), 6);
        broken("nine bits behind", bits().code(0).empty(6).raw("000000000"), 6);
        broken("seven bits behind", bits().code(1).empty(6).raw("0000000"), 0);
        for (int i = 0; i < 7; i++) {
            String one = "0".repeat(i) + "1" + "0".repeat(6 - i);
            broken("seven bits behind: " + one, bits().code(1).empty(6).raw(one), 6);
        }
        broken("fifteen bits behind", bits().code(1).empty(6).raw("0".repeat(15)), 6);
        House house = new House();
        int f = Check.film(house, filmOf(I, 16, 1, bits().code(0).empty(6).code(1).empty(6).raw("00000000")));
        for (int m = 0; m < 2; m++) {
            Check.due("24: nothing is mended", house.mended(f, 0, 0, 8 * m, 0), false);
            Check.due("22: nor is a part", house.part(f, 0, m, 0), m);
        }
    }

    /** "2 no such way": the last way of each kind, and the one behind it. */
    private static void ways() {
        int[] most = {2, 4, 6};
        for (int kind = I; kind <= B; kind++) {
            for (int way = 0; way <= most[kind] + 3; way++) {
                boolean fine = way <= most[kind];
                Check.Bits one = bits().code(way);
                int told = kind == P ? (way == 1 ? 1 : 0) : kind == B ? (way == 3 ? 2 : way == 1 || way == 2 ? 1 : 0) : 0;
                for (int i = 0; i < 2 * told; i++) {
                    one.signed(0);
                }
                one.empty(kind == I || way > 0 ? 6 : 0);
                judged("way " + way + " of kind " + kind, kind, 8, one, fine ? 0 : 2, fine ? -1 : 0);
            }
            judged("no such way ahead of the end", kind, 8, bits().code(most[kind] + 1), 2, 0);
        }
    }

    private static Check.Bits ones(int many) {
        Check.Bits all = bits().code(0).code(many);
        for (int i = 0; i < many; i++) {
            all.code(0).signed(1);
        }
        return all;
    }

    /** "the code of how many LEVELS it has, 0 .. 16": "4 more than 16 levels". */
    private static void howManyLevels() {
        broken("15 levels", ones(15).empty(5), 0);
        broken("16 levels", ones(16).empty(5), 0);
        broken("17 levels", ones(17).empty(5), 4);
        broken("17 levels and no bits behind", bits().code(0).code(17), 4);
        House house = new House();
        int f = Check.film(house, filmOf(I, 8, 1, ones(16).empty(5)));
        Check.due("22: how many levels", house.part(f, 0, 0, 5), 16);
    }

    /** "or a place beyond the scan's end (ahead of the level's code)". */
    private static void placesOfTheScan() {
        broken("14 passed over", bits().code(0).code(1).code(14).signed(1).empty(5), 0);
        broken("15 passed over", bits().code(0).code(1).code(15).signed(1).empty(5), 0);
        broken("16 passed over", bits().code(0).code(1).code(16).signed(1).empty(5), 4);
        broken("16 passed over, ahead of a level 0", bits().code(0).code(1).code(16).signed(0), 4);
        broken("16 passed over, ahead of no code", bits().code(0).code(1).code(16).raw("0".repeat(15)), 4);
        broken("the second at the last place", bits().code(0).code(2).code(3).signed(1).code(11).signed(1).empty(5), 0);
        broken("the second behind it", bits().code(0).code(2).code(3).signed(1).code(12).signed(1).empty(5), 4);
        broken("a second behind the last place", bits().code(0).code(2).code(15).signed(1).code(0).signed(1).empty(5), 4);
        Check.Bits late = bits().code(0).code(16).code(1).signed(1);
        for (int i = 1; i < 16; i++) {
            late.code(0).signed(1);
        }
        broken("16 levels of which one was passed over", late.empty(5), 4);
    }

    /** "SCAN: 0, 1, 4, 8, 5, 2, ..": from the first place to the last, X being H D H. */
    private static void eachPlaceOfTheScan() {
        int[] scan = {0, 1, 4, 8, 5, 2, 3, 6, 9, 12, 13, 10, 7, 11, 14, 15};
        int[][] h = {{1, 1, 1, 1}, {1, 1, -1, -1}, {1, -1, -1, 1}, {1, -1, 1, -1}};
        for (int i = 0; i < 16; i++) {
            House house = new House();
            int f = Check.film(house, filmOf(I, 8, 3, bits().code(0).empty(4).code(1).code(i).signed(16).empty(1)));
            for (int at = 0; at < 16; at++) {
                int x = 16 * 3 * h[at / 4][scan[i] / 4] * h[scan[i] % 4][at % 4];
                Check.due("23: place " + i + " of the scan, sample " + at, house.look(f, 0, 1, at % 4, at / 4), 128 + (x + 8 >> 4));
            }
        }
    }

    /** "A CODE of a number v", "A SIGNED code of v": on both sides of each further digit. */
    private static void codesOfLevels() {
        for (int power = 2; power <= 4096; power *= 2) {
            for (int v = power - 1; v <= Math.min(power, 4095); v++) {
                levelIs(v);
                levelIs(-v);
            }
        }
    }

    private static void levelIs(int level) {
        House house = new House();
        int f = Check.film(house, filmOf(I, 8, 1, bits().code(0).code(1).code(0).signed(level).empty(5)));
        int number = (level > 0 ? 2 * level - 1 : -2 * level) + 1;
        int digits = Integer.toBinaryString(number).length();
        Check.due("22: bits with a level " + level, house.part(f, 0, 0, 6), 1 + 3 + 1 + 2 * digits - 1 + 5);
        int want = Math.max(0, Math.min(255, 128 + (level + 8 >> 4)));
        Check.due("23: a level " + level, house.look(f, 0, 0, 0, 0), want);
    }

    /** "the signed code of the level, not 0, at most 4095 in size": "5 a level 0, or beyond". */
    private static void levels() {
        int[] values = {0, 1, -1, 4094, 4095, 4096, 4097, -4094, -4095, -4096, 16383, -16383};
        for (int v : values) {
            boolean fine = v != 0 && v >= -4095 && v <= 4095;
            broken("a level " + v, bits().code(0).code(1).code(0).signed(v).empty(5), fine ? 0 : 5);
            broken("a level " + v + " in the last block", bits().code(0).empty(5).code(1).code(0).signed(v), fine ? 0 : 5);
        }
    }

    private static Check.Bits vectorOf(int way, int... differences) {
        Check.Bits one = bits().code(way);
        for (int d : differences) {
            one.signed(d);
        }
        return one;
    }

    /** "each of x, y is -16 .. 16": "3 a vector beyond", "(RULE 3 of x ahead of y's code)". */
    private static void vectors() {
        int[] values = {-18, -17, -16, -15, 15, 16, 17, 18};
        for (int v : values) {
            boolean fine = v >= -16 && v <= 16;
            int rule = fine ? 0 : 3;
            int spot = fine ? -1 : 0;
            judged("forward x " + v, P, 8, vectorOf(1, v, 0).empty(6), rule, spot);
            judged("forward y " + v, P, 8, vectorOf(1, 0, v).empty(6), rule, spot);
            judged("forward x of B " + v, B, 8, vectorOf(1, v, 0).empty(6), rule, spot);
            judged("forward y of B " + v, B, 8, vectorOf(1, 0, v).empty(6), rule, spot);
            judged("backward x " + v, B, 8, vectorOf(2, v, 0).empty(6), rule, spot);
            judged("backward y " + v, B, 8, vectorOf(2, 0, v).empty(6), rule, spot);
            for (int i = 0; i < 4; i++) {
                int[] both = new int[4];
                both[i] = v;
                judged("BOTH " + i + " " + v, B, 8, vectorOf(3, both).empty(6), rule, spot);
            }
            judged("x " + v + " ahead of y's code", P, 8, vectorOf(1, v).raw("0".repeat(15)), fine ? 7 : 3, 0);
            judged("y " + v + " ahead of levels", P, 8, vectorOf(1, 0, v).raw("0".repeat(15)), fine ? 7 : 3, 0);
            judged("forward ahead of backward", B, 8, vectorOf(3, 0, v).raw("0".repeat(15)), fine ? 7 : 3, 0);
            judged("backward x ahead of y", B, 8, vectorOf(3, 0, 0, v).raw("0".repeat(15)), fine ? 7 : 3, 0);
        }
    }

    /** "how much x and y are more than in the part on the left": it is the sum that is held to 16. */
    private static void vectorsByTheLeft() {
        int[][] pairs = {{16, 0, 0}, {16, 1, 3}, {16, -32, 0}, {16, -33, 3}, {-16, 32, 0}, {-16, 33, 3}, {-16, -1, 3}};
        for (int[] pair : pairs) {
            int spot = pair[2] == 0 ? -1 : 1;
            judged("x " + pair[0] + " and " + pair[1], P, 16,
                bits().code(1).signed(pair[0]).signed(0).empty(6).code(1).signed(pair[1]).signed(0).empty(6), pair[2], spot);
            judged("y " + pair[0] + " and " + pair[1], P, 16,
                bits().code(1).signed(0).signed(pair[0]).empty(6).code(1).signed(0).signed(pair[1]).empty(6), pair[2], spot);
            judged("backward x " + pair[0] + " and " + pair[1], B, 16,
                bits().code(2).signed(pair[0]).signed(0).empty(6).code(2).signed(pair[1]).signed(0).empty(6), pair[2], spot);
            judged("backward y " + pair[0] + " and " + pair[1], B, 16,
                bits().code(2).signed(0).signed(pair[0]).empty(6).code(3).signed(0).signed(0).signed(0).signed(pair[1]).empty(6),
                pair[2], spot);
        }
    }

    private static void vectorIs(String what, int kind, int m, Check.Bits last, int... want) {
        House house = new House();
        int f = Check.film(house, filmOf(kind, 24, 1, last));
        int k = kind == P ? 1 : 2;
        Check.due("21: whole: " + what, house.coded(f, k, 6), 0);
        for (int i = 0; i < 4; i++) {
            Check.due("22: " + what + ": " + (i + 1), house.part(f, k, m, i + 1), want[i]);
        }
    }

    /** "(0 without one in its row, or if that has no forward vector)". */
    private static void noVectorOnTheLeft() {
        Check.Bits forward = vectorOf(1, 5, -6).empty(6);
        vectorIs("the left one is FORWARD", P, 1, vectorOf(1, 5, -6).empty(6).code(1).signed(1).signed(1).empty(6).code(0),
            6, -5, 0, 0);
        vectorIs("the left one is MEAN", P, 1, bits().code(2).empty(6).code(1).signed(1).signed(2).empty(6).code(0), 1, 2, 0, 0);
        vectorIs("SKIPPED behind MEAN", P, 2, forward.code(2).empty(6).code(0), 0, 0, 0, 0);
        vectorIs("SKIPPED behind SKIPPED", P, 2, vectorOf(1, 5, -6).empty(6).code(0).code(0), 5, -6, 0, 0);
        vectorIs("FORWARD behind SKIPPED", P, 2, vectorOf(1, 5, -6).empty(6).code(0).code(1).signed(1).signed(1).empty(6),
            6, -5, 0, 0);
        vectorIs("the first is SKIPPED", P, 0, bits().code(0).code(0).code(0), 0, 0, 0, 0);
        vectorIs("FORWARD behind BACKWARD", B, 1, vectorOf(2, 5, -6).empty(6).code(1).signed(1).signed(2).empty(6).code(0),
            1, 2, 0, 0);
        vectorIs("BACKWARD behind FORWARD", B, 1, vectorOf(1, 5, -6).empty(6).code(2).signed(1).signed(2).empty(6).code(0),
            0, 0, 1, 2);
        vectorIs("BOTH behind FORWARD", B, 1,
            vectorOf(1, 5, -6).empty(6).code(3).signed(1).signed(1).signed(2).signed(2).empty(6).code(0), 6, -5, 2, 2);
        vectorIs("BACKWARD behind BOTH", B, 1, vectorOf(3, 5, -6, 7, -8).empty(6).code(2).signed(1).signed(1).empty(6).code(0),
            0, 0, 8, -7);
        vectorIs("FORWARD behind SKIPPED, whose 0s count", B, 2,
            vectorOf(3, 5, -6, 7, -8).empty(6).code(0).code(1).signed(1).signed(2).empty(6), 1, 2, 0, 0);
        vectorIs("SKIPPED behind BOTH", B, 1, vectorOf(3, 5, -6, 7, -8).empty(6).code(0).code(0), 0, 0, 0, 0);
        vectorIs("BOTH behind MEAN", B, 1, bits().code(4).empty(6).code(3).signed(1).signed(2).signed(3).signed(4).empty(6).code(0),
            1, 2, 3, 4);
        House house = new House();
        Check.Bits rows = bits();
        rows.code(1).signed(3).signed(3).empty(6).code(1).signed(1).signed(1).empty(6);
        rows.code(1).signed(1).signed(1).empty(6).code(0);
        int f = Check.film(house, Check.head(0, 16, 16, 25, 2), Check.picture(I, 0, 1, flat(4)), Check.picture(P, 1, 1, rows));
        int[] x = {3, 4, 1, 1};
        for (int m = 0; m < 4; m++) {
            Check.due("22: a row begins with 0: part " + m, house.part(f, 1, m, 1), x[m]);
        }
    }

    /** "At the first one the SPOT is the part": of several broken rules the first one counts. */
    private static void ahead() {
        judged("a level 0 ahead of no such way", I, 16, bits().code(0).code(1).code(0).signed(0).empty(5).code(3), 5, 0);
        judged("no such way ahead of a level 0", I, 16, bits().code(0).empty(6).code(3).code(1).code(0).signed(0), 2, 1);
        judged("the bits end ahead of what is behind the last", I, 16, bits().code(0).empty(6), 1, 1);
    }

    private static int first(int step, int level) {
        House house = new House();
        int f = Check.film(house, filmOf(I, 8, step, bits().code(0).code(1).code(0).signed(level).empty(5)));
        return house.look(f, 0, 0, 0, 0);
    }

    /** "each (X + 8) / 16 (rounded down)". */
    private static void restRounded() {
        int[] levels = {7, 8, 23, 24, -8, -9, -24, -25, 1, -1};
        int[] rest = {0, 1, 1, 2, 0, -1, -1, -2, 0, 0};
        for (int i = 0; i < levels.length; i++) {
            Check.due("23: the rest of " + levels[i], first(1, levels[i]), 128 + rest[i]);
        }
    }

    /** "held to 0 .. 255". */
    private static void restHeld() {
        int[] levels = {126 * 16, 127 * 16, 127 * 16 + 7, 127 * 16 + 8, 4095, -127 * 16, -128 * 16, -128 * 16 - 8,
            -128 * 16 - 9, -4095};
        int[] want = {254, 255, 255, 255, 255, 1, 0, 0, 0, 0};
        for (int i = 0; i < levels.length; i++) {
            Check.due("23: held, a level " + levels[i], first(1, levels[i]), want[i]);
        }
        Check.due("23: the greatest level and step", first(31, 4095), 255);
        Check.due("23: the least level and the greatest step", first(31, -4095), 0);
    }

    private static void steps() {
        Check.due("23: STEP 1", first(1, 16), 129);
        Check.due("23: STEP 2", first(2, 16), 130);
        Check.due("23: STEP 31", first(31, 16), 159);
    }

    /** "128 without any", "128 without", "(of those that are in the plane)", in all planes. */
    private static void foretoldAtTheSides() {
        for (int way = 0; way < 3; way++) {
            House house = new House();
            int f = Check.film(house, filmOf(I, 8, 1, bits().code(way).empty(6)));
            for (int plane = 0; plane < 3; plane++) {
                Check.due("23: way " + way + " in the corner", house.look(f, 0, plane, 3, 3), 128);
            }
        }
        // Parts of 16 by 16, of which the first has 160, 144, 112 in its planes.
        for (int way = 0; way < 3; way++) {
            House house = new House();
            Check.Bits four = bits().code(0);
            for (int block = 0; block < 4; block++) {
                four.code(1).code(0).signed(32 * 16);
            }
            four.code(1).code(0).signed(16 * 16).code(1).code(0).signed(-16 * 16);
            four.code(way).empty(6).code(way).empty(6).code(way).empty(6);
            int f = Check.film(house, Check.head(0, 16, 16, 25, 1), Check.picture(I, 0, 1, four));
            int[] lit = {160, 144, 112};
            for (int plane = 0; plane < 3; plane++) {
                int far = plane == 0 ? 15 : 7;
                // LEFT of the lower left part and ABOVE of the upper right one have none there.
                Check.due("23: upper right, way " + way, house.look(f, 0, plane, far, 0), way == 2 ? 128 : lit[plane]);
                Check.due("23: lower left, way " + way, house.look(f, 0, plane, 0, far), way == 1 ? 128 : lit[plane]);
            }
        }
    }

    /** "2 to 4 as 0 to 2 in I", "4 to 6 as 0 to 2 in I": the same three ways in P and B. */
    private static void foretoldInAllKinds() {
        for (int kind = I; kind <= B; kind++) {
            for (int way = 0; way < 3; way++) {
                int told = way + 2 * kind;
                Check.Bits four = bits().code(2 * kind);
                for (int block = 0; block < 4; block++) {
                    four.code(1).code(0).signed(32 * 16);
                }
                four.empty(2).code(told).empty(6).code(told).empty(6).code(told).empty(6);
                int[] flat = Check.picture(I, 0, 1, flat(4));
                House house = new House();
                int f = kind == I ? Check.film(house, Check.head(0, 16, 16, 25, 1), Check.picture(I, 0, 1, four))
                    : kind == P ? Check.film(house, Check.head(0, 16, 16, 25, 2), flat, Check.picture(P, 1, 1, four))
                    : Check.film(house, Check.head(0, 16, 16, 25, 3), flat, Check.picture(I, 2, 1, flat(4)), Check.picture(B, 1, 1, four));
                int place = kind == I ? 0 : 1;
                String name = "23: way " + way + " in kind " + kind;
                Check.due(name, house.look(f, place, 0, 0, 0), 160);
                Check.due(name, house.look(f, place, 0, 15, 0), way == 2 ? 128 : 160);
                Check.due(name, house.look(f, place, 0, 0, 15), way == 1 ? 128 : 160);
                Check.due("22: way", house.part(f, kind, 1, 0), told);
                Check.due("21: whole", house.coded(f, kind, 6), 0);
            }
        }
    }

    /** A block whose row 0 is so much more in all columns, or (turned) whose column 0 is in all rows. */
    private static Check.Bits oneRow(Check.Bits to, int more, boolean turned) {
        // Places 0, 4, 8, 12 stand at 0, 2, 3, 9 of the scan, places 0, 1, 2, 3 at 0, 1, 5, 6.
        int[] passed = turned ? new int[] {0, 0, 3, 0} : new int[] {0, 1, 0, 5};
        to.code(4);
        for (int p : passed) {
            to.code(p).signed(4 * more);
        }
        return to;
    }

    /** "LEFT: for each row the sample just left", "ABOVE: for each column likewise". */
    private static void foretoldRowByRow() {
        House house = new House();
        Check.Bits four = bits().code(0);
        // Row 0 of the upper right block and row 4 of the lower right one; then columns of the lower ones.
        oneRow(four.empty(1), 40, false);
        oneRow(four, 9, true);
        oneRow(four, -50, true);
        oneRow(four, 70, false);
        oneRow(four, 30, true);
        four.code(1).empty(6).code(2).empty(6).code(2).empty(6);
        int f = Check.film(house, Check.head(0, 16, 16, 25, 1), Check.picture(I, 0, 1, four));
        Check.due("21: whole", house.coded(f, 0, 6), 0);
        Check.due("23: row 0", house.look(f, 0, 0, 7, 0), 168);
        Check.due("23: row 1", house.look(f, 0, 0, 7, 1), 128);
        Check.due("23: column 0", house.look(f, 0, 0, 0, 7), 137);
        Check.due("23: column 4", house.look(f, 0, 0, 4, 7), 78);
        Check.due("23: column 5", house.look(f, 0, 0, 5, 7), 128);
        for (int i = 0; i < 8; i++) {
            for (int far = 8; far < 16; far += 7) {
                Check.due("23: LEFT in row " + i, house.look(f, 0, 0, far, i), house.look(f, 0, 0, 7, i));
                Check.due("23: ABOVE in column " + i, house.look(f, 0, 0, i, far), house.look(f, 0, 0, i, 7));
                Check.due("23: ABOVE in column " + (8 + i), house.look(f, 0, 0, 8 + i, far), house.look(f, 0, 0, 8 + i, 7));
            }
            int j = i % 4;
            Check.due("23: LEFT in plane 1", house.look(f, 0, 1, 4 + i / 4, j), house.look(f, 0, 1, 3, j));
            Check.due("23: ABOVE in plane 2", house.look(f, 0, 2, j, 4 + i / 4), house.look(f, 0, 2, j, 3));
        }
        Check.due("23: plane 1, row 0", house.look(f, 0, 1, 7, 0), 198);
        Check.due("23: plane 2, column 0", house.look(f, 0, 2, 0, 7), 158);
    }

    /** "their sum and half of how many, divided by how many (whole part)": on both sides of each half. */
    private static void meanRounded() {
        int[] sums = {3, 4, 11, 12, -4, -5, -12, -13, 0};
        for (int sum : sums) {
            House house = new House();
            Check.Bits two = oneRow(bits().code(0).empty(1), sum, false).empty(4).code(0).empty(6);
            int f = Check.film(house, filmOf(I, 16, 1, two));
            Check.due("23: the sample itself", house.look(f, 0, 0, 7, 0), 128 + sum);
            Check.due("23: MEAN of eight on the left, " + sum, house.look(f, 0, 0, 8, 7), (8 * 128 + sum + 4) / 8);
            House other = new House();
            Check.Bits below = oneRow(bits().code(0).empty(2), sum, true).empty(3).code(0).empty(6);
            int g = Check.film(other, Check.head(0, 8, 16, 25, 1), Check.picture(I, 0, 1, below));
            Check.due("23: MEAN of eight above, " + sum, other.look(g, 0, 0, 7, 8), (8 * 128 + sum + 4) / 8);
        }
        int[] pairs = {1, 2, 5, 6, -2, -3};
        for (int sum : pairs) {
            House house = new House();
            Check.Bits two = oneRow(bits().code(0).empty(4), sum, false).empty(1).code(0).empty(6);
            int f = Check.film(house, filmOf(I, 16, 1, two));
            Check.due("23: MEAN of four in plane 1, " + sum, house.look(f, 0, 1, 4, 0), (4 * 128 + sum + 2) / 4);
        }
        meanOfBothSides();
    }

    /** Of sixteen samples, eight above and eight on the left: the corner between them doesn't count. */
    private static void meanOfBothSides() {
        int[] sums = {7, 8, 23, 24, -8, -9};
        for (int sum : sums) {
            House house = new House();
            // Of the upper right part's lowest row one sample is more.
            Check.Bits four = bits().code(0).empty(6).code(0).empty(2);
            oneRow(four, sum, true);
            four.empty(3).code(0).empty(6).code(0).empty(6);
            int f = Check.film(house, Check.head(0, 16, 16, 25, 1), Check.picture(I, 0, 1, four));
            Check.due("23: the part on the left", house.look(f, 0, 0, 7, 15), 128);
            Check.due("23: MEAN of sixteen, " + sum, house.look(f, 0, 0, 15, 15), (16 * 128 + sum + 8) / 16);
        }
        House house = new House();
        Check.Bits corner = bits().code(0).empty(3).code(1).code(0).signed(100 * 16).empty(2);
        corner.code(2).empty(6).code(1).empty(6).code(0).empty(6);
        int f = Check.film(house, Check.head(0, 16, 16, 25, 1), Check.picture(I, 0, 1, corner));
        Check.due("23: the corner", house.look(f, 0, 0, 7, 7), 228);
        Check.due("23: MEAN without the corner", house.look(f, 0, 0, 8, 8), 128);
    }

    /** "BOTH: (f + b + 1) / 2" at each sample of each plane; "of B BOTH with vectors 0". */
    private static void bothRounded() {
        for (int more = 20; more <= 23; more++) {
            for (int way = 0; way <= 3; way += 3) {
                House house = new House();
                Check.Bits lit = bits().code(0);
                for (int block = 0; block < 6; block++) {
                    lit.code(1).code(0).signed(16 * more);
                }
                Check.Bits between = bits().code(way);
                if (way == 3) {
                    between.signed(0).signed(0).signed(0).signed(0).empty(6);
                }
                int f = Check.film(house, Check.head(0, 8, 8, 25, 3), Check.picture(I, 0, 1, flat(1)),
                    Check.picture(I, 2, 1, lit), Check.picture(B, 1, 1, between));
                for (int i = 0; i < 96; i++) {
                    int plane = i < 64 ? 0 : i < 80 ? 1 : 2;
                    int wide = plane == 0 ? 8 : 4;
                    int at = plane == 0 ? i : i % 16;
                    Check.due("23: between, sample " + i, house.look(f, 1, plane, at % wide, at / wide), (128 + 128 + more + 1) / 2);
                }
            }
        }
    }

    /** A film of an I with a sample of its own everywhere, and a P of one vector. */
    private static House moved(int x, int y) {
        House house = new House();
        house.blank(8, 8, 0, 0, 0);
        for (int i = 0; i < 64; i++) {
            house.put(0, 0, i % 8, i / 8, 3 * i + i % 3);
        }
        for (int i = 0; i < 16; i++) {
            house.put(0, 1, i % 4, i / 4, 10 * i + i % 3);
            house.put(0, 2, i % 4, i / 4, 255 - 10 * i);
        }
        house.reel(0);
        house.set(4, 1);
        house.bytes(house.make(0));
        int size = house.coded(0, 0, 3);
        int[] made = new int[size];
        for (int i = 0; i < size; i++) {
            made[i] = house.tape(12 + i);
        }
        House other = new House();
        Check.film(other, Check.head(0, 8, 8, 25, 2), new int[] {I, 0, 1, size >> 8, size & 255}, made,
            Check.picture(P, 1, 1, vectorOf(1, x, y).empty(6)));
        return other;
    }

    private static int near(House house, int plane, int x, int y) {
        int most = plane == 0 ? 7 : 3;
        return house.look(0, 0, plane, Math.max(0, Math.min(most, x)), Math.max(0, Math.min(most, y)));
    }

    private static void movedRight(int x, int y) {
        House house = moved(x, y);
        for (int plane = 0; plane < 3; plane++) {
            int dx = plane == 0 ? x : x / 2;
            int dy = plane == 0 ? y : y / 2;
            int side = plane == 0 ? 8 : 4;
            for (int i = 0; i < side; i++) {
                int left = i + Math.floorDiv(dx, 2);
                int top = side - 1 - i + Math.floorDiv(dy, 2);
                int a = near(house, plane, left, top);
                int b = near(house, plane, left + 1, top);
                int c = near(house, plane, left, top + 1);
                int d = near(house, plane, left + 1, top + 1);
                boolean halfX = Math.floorMod(dx, 2) == 1;
                boolean halfY = Math.floorMod(dy, 2) == 1;
                int want = halfX && halfY ? (a + b + c + d + 2) / 4 : halfX ? (a + b + 1) / 2 : halfY ? (a + c + 1) / 2 : a;
                Check.due("23: vector " + x + ", " + y + " in plane " + plane, house.look(0, 1, plane, i, side - 1 - i), want);
            }
        }
    }

    /** "A sample beyond a plane is the nearest one of it": vectors to all sides, as far as can be. */
    private static void beyondThePlane() {
        int[] far = {-16, 0, 16};
        for (int x : far) {
            for (int y : far) {
                movedRight(x, y);
            }
        }
        movedRight(-15, 15);
        movedRight(15, -15);
    }

    /** "in planes 1 and 2 each of x, y is halved first (towards 0)"; halves between two and four samples. */
    private static void halvesRounded() {
        for (int v = -5; v <= 5; v++) {
            movedRight(v, 0);
            movedRight(0, v);
            movedRight(v, v);
            movedRight(v, -v);
            movedRight(v, 1);
            movedRight(-1, v);
        }
    }

    /** A picture of one part whose plane 0 is so much more than is foretold. */
    private static Check.Bits lit(int way, int more) {
        Check.Bits one = bits().code(way);
        for (int block = 0; block < 4; block++) {
            one.code(1).code(0).signed(16 * more);
        }
        return one.empty(2);
    }

    /** "the same as in the latest anchor (of B: in the EARLIER one; of an I that is the first picture: 128)". */
    private static void mendedFrom() {
        House house = new House();
        Check.Bits none = bits();
        int f = Check.film(house, Check.head(0, 8, 8, 25, 6), Check.picture(I, 0, 1, lit(0, 20)),
            Check.picture(P, 1, 1, none), Check.picture(I, 2, 1, lit(0, 50)), Check.picture(I, 3, 1, none),
            Check.picture(P, 5, 1, lit(2, -30)), Check.picture(B, 4, 1, none));
        int[] want = {148, 148, 178, 178, 178, 98};
        boolean[] mended = {false, true, false, true, true, false};
        for (int place = 0; place < 6; place++) {
            Check.due("23: place " + place, house.look(f, place, 0, 5, 5), want[place]);
            Check.due("24: place " + place, house.mended(f, place, 0, 5, 5), mended[place]);
        }
        House first = new House();
        int g = Check.film(first, Check.head(0, 8, 8, 25, 2), Check.picture(I, 0, 1, none), Check.picture(P, 1, 1, none));
        for (int plane = 0; plane < 3; plane++) {
            Check.due("23: the first picture", first.look(g, 0, plane, 3, 3), 128);
            Check.due("23: the second is as the first", first.look(g, 1, plane, 3, 3), 128);
        }
    }

    /** "that and all behind it are MENDED": of 3 by 2 parts those from the spot on; 22: "-1 for all". */
    private static void mendedParts() {
        for (int spot = 0; spot <= 6; spot++) {
            House house = new House();
            Check.Bits six = flat(spot);
            if (spot < 6) {
                six.code(3);
            }
            int f = Check.film(house, Check.head(0, 24, 16, 25, 1), Check.picture(I, 0, 1, six));
            Check.due("21: spot", house.coded(f, 0, 7), spot < 6 ? spot : -1);
            for (int m = 0; m < 6; m++) {
                int x = m % 3;
                int y = m / 3;
                boolean want = m >= spot;
                Check.due("24: part " + m, house.mended(f, 0, 0, 8 * x, 8 * y), want);
                Check.due("24: part " + m, house.mended(f, 0, 0, 8 * x + 7, 8 * y + 7), want);
                Check.due("24: part " + m, house.mended(f, 0, 1, 4 * x, 4 * y), want);
                Check.due("24: part " + m, house.mended(f, 0, 2, 4 * x + 3, 4 * y + 3), want);
                int[] facts = {0, 0, 0, 0, 0, 0, 7};
                for (int what = 0; what < 7; what++) {
                    Check.due("22: part " + m + " " + what, house.part(f, 0, m, what), want ? -1 : facts[what]);
                }
            }
        }
    }

    /** What is ahead of the spot stays in all planes, and the largest picture is mended to its end. */
    private static void mendedNothingElse() {
        House house = new House();
        Check.Bits lit = bits().code(0);
        for (int block = 0; block < 6; block++) {
            lit.code(1).code(0).signed(16 * (block + 1));
        }
        int f = Check.film(house, Check.head(0, 16, 16, 25, 1), Check.picture(I, 0, 1, lit.code(3)));
        Check.due("21: spot", house.coded(f, 0, 7), 1);
        for (int i = 0; i < 64; i++) {
            int block = i / 32 * 2 + i % 8 / 4;
            Check.due("23: plane 0", house.look(f, 0, 0, i % 8, i / 8), 129 + block);
            Check.due("23: plane 0 of part 3", house.look(f, 0, 0, 8 + i % 8, 8 + i / 8), 128);
            int plane = 1 + i / 16 % 2;
            Check.due("23: plane " + plane, house.look(f, 0, plane, i % 4, i / 4 % 4), 132 + plane);
            Check.due("23: plane " + plane + " of part 1", house.look(f, 0, plane, 4 + i % 4, i / 4 % 4), 128);
        }
        House large = new House();
        int g = Check.film(large, Check.head(0, 24, 24, 25, 2), Check.picture(I, 0, 1, flat(9)), Check.picture(P, 1, 1, bits()));
        for (int plane = 0; plane < 3; plane++) {
            int last = plane == 0 ? 23 : 11;
            Check.due("23: the last sample of plane " + plane, large.look(g, 1, plane, last, last), 128);
            Check.due("24: the last sample of plane " + plane, large.mended(g, 1, plane, last, last), true);
        }
    }
}
