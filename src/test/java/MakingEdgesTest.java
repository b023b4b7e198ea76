import java.util.ArrayList;
import java.util.List;

/** Term 6 and promises 14 to 17: the lines that making has. */
public final class MakingEdgesTest {
    private static final int RATE = 0;
    private static final int GROUP = 1;
    private static final int BETWEEN = 2;
    private static final int REACH = 3;
    private static final int STEP = 4;
    private static final int SIZE = 5;
    private static final int FLOW = 6;
    private static final int PLAN = 7;
    private static final int BLOCKS = 0;
    private static final int WAVES = 1;
    private static final int RUNS = 2;

    public static void main(String[] args) {
        newSettings();
        reelIsFull();
        reelAsItIs();
        kindsOfBlocks();
        kindsOfOthers();
        plannedGroups();
        plannedAheadOfSize();
        rates();
        levelsRounded();
        levelsOfBothSigns();
        reach();
        leastVector();
        vectorByTheLeft();
        leastWay();
        leastWayOfSeveral();
        everySampleCounts();
        asTheyAreRead();
        halfOfSize();
        noMoreThanSize();
        flowComesAgain();
        lastStep();
        twoThousandBytes();
        sizeOfOthers();
        runsAsTold();
        sameAheadOfDown();
        Check.end("MakingEdgesTest");
    }

    /** "0 RATE 1 .. 60 (25), 1 GROUP 1 .. 12 (4), ..": what each is at first, and what set() answers. */
    private static void newSettings() {
        int[] at = {25, 4, 0, 2, 4, 0, 1000, 0};
        int[] least = {1, 1, 0, 0, 1, 100, 50, 0};
        int[] most = {60, 12, 2, 8, 31, 20000, 10000, 1};
        House house = new House();
        for (int what = 0; what < 8; what++) {
            Check.due("14: what it was at first", house.set(what, least[what]), at[what]);
            Check.due("14: the least", house.set(what, most[what]), least[what]);
            Check.due("14: the most", house.set(what, least[what]), most[what]);
        }
        Check.due("14: SIZE may be 0", house.set(SIZE, 0), 100);
        Check.due("14: SIZE was 0", house.set(SIZE, 0), 0);
    }

    /** "It has 12", "The reel is empty: how many it had", and an empty one takes any size. */
    private static void reelIsFull() {
        House house = new House();
        house.blank(8, 16, 1, 2, 3);
        house.blank(16, 8, 1, 2, 3);
        Check.due("16: none", house.unreel(), 0);
        Check.badArgument("17: the reel is empty", () -> house.make(0));
        for (int n = 1; n <= 12; n++) {
            Check.due("15: how many it has", house.reel(0), n);
            Check.badArgument("15: another size behind " + n, () -> house.reel(1));
        }
        Check.badState("15: a 13th", () -> house.reel(0));
        Check.due("17: 12 are made", house.film(house.make(RUNS), 4), 12);
        Check.due("43: the reel stays", house.count(3), 12);
        Check.due("16: how many it had", house.unreel(), 12);
        Check.badArgument("17: the reel is empty again", () -> house.make(0));
        Check.due("15: another size on an empty reel", house.reel(1), 1);
        Check.badArgument("15: that of the old one", () -> house.reel(0));
        Check.due("17: one is made", house.film(house.make(RUNS), 4), 1);
    }

    /** "A picture (as it is now)": neither put() nor drop() reach what is on the reel. */
    private static void reelAsItIs() {
        House house = new House();
        house.blank(8, 8, 10, 20, 30);
        house.reel(0);
        house.put(0, 0, 7, 7, 200);
        house.reel(0);
        house.drop(0);
        house.blank(16, 8, 99, 99, 99);
        Check.badArgument("15: the size of what is on it", () -> house.reel(0));
        int f = house.make(RUNS);
        Check.due("17: the first", house.look(f, 0, 0, 7, 7), 10);
        Check.due("17: the second", house.look(f, 1, 0, 7, 7), 200);
    }

    private static House reelOf(int many) {
        House house = new House();
        house.blank(8, 8, 128, 128, 128);
        for (int i = 0; i < many; i++) {
            house.reel(0);
        }
        return house;
    }

    private static String ordersOf(House house, int f) {
        StringBuilder got = new StringBuilder();
        for (int k = 0; k < house.film(f, 4); k++) {
            got.append("IPB".charAt(house.coded(f, k, 0))).append(house.coded(f, k, 1)).append(' ');
        }
        return got.toString();
    }

    /** Kinds and places as the words of Term 6 have them, picture by picture. */
    private static String ordersDue(int many, int group, int between) {
        StringBuilder want = new StringBuilder();
        List<Integer> waiting = new ArrayList<>();
        for (int place = 0; place < many; place++) {
            int k = place % group;
            boolean last = k == group - 1 || place == many - 1;
            if (k > 0 && k % (between + 1) != 0 && !last) {
                waiting.add(place);
                continue;
            }
            want.append(k == 0 ? "I" : "P").append(place).append(' ');
            for (int b : waiting) {
                want.append("B").append(b).append(' ');
            }
            waiting.clear();
        }
        return want.toString();
    }

    private static void ordersAre(String what, House house, int coding, String want) {
        String got = ordersOf(house, house.make(coding));
        Check.due("17: " + what + ": " + got + "for " + want, got.equals(want), true);
    }

    /** "all have GROUP pictures, but the last", "I if k is 0; P if .., or it is the last one of its group; else B". */
    private static void kindsOfBlocks() {
        for (int many = 1; many <= 12; many++) {
            for (int group = 1; group <= 12; group++) {
                for (int between = 0; between <= 2; between++) {
                    House house = reelOf(many);
                    house.set(GROUP, group);
                    house.set(BETWEEN, between);
                    ordersAre("GROUP " + group + " BETWEEN " + between, house, BLOCKS, ordersDue(many, group, between));
                    int groups = (many + group - 1) / group;
                    Check.due("20: groups", house.film(0, 6), groups);
                }
            }
        }
    }

    /** "WAVES: all I; RUNS: the first of a group I, the others P (BETWEEN, PLAN don't count)". */
    private static void kindsOfOthers() {
        for (int many = 1; many <= 12; many++) {
            for (int group = 1; group <= 12; group++) {
                House house = reelOf(many);
                house.set(GROUP, group);
                house.set(BETWEEN, 2);
                house.set(PLAN, 1);
                ordersAre("WAVES of " + many, house, WAVES, ordersDue(many, 1, 0));
                ordersAre("RUNS with GROUP " + group, house, RUNS, ordersDue(many, group, 0));
            }
        }
    }

    /** "groups of 1 to 4 pictures"; "of several such ways the one whose first group is the shortest". */
    private static void plannedGroups() {
        for (int many = 1; many <= 12; many++) {
            for (int between = 0; between <= 2; between++) {
                House house = new House();
                house.blank(8, 8, 128, 128, 128);
                house.noise(0, 0, 5L, 90);
                for (int i = 0; i < many; i++) {
                    house.reel(0);
                }
                house.set(GROUP, many % 2 == 0 ? 1 : 12);
                house.set(BETWEEN, between);
                house.set(PLAN, 1);
                int f = house.make(BLOCKS);
                // An I needs many bytes, all others one: as few groups as can be, the first the shortest.
                int groups = (many + 3) / 4;
                Check.due("20: as few groups as can be of " + many, house.film(f, 6), groups);
                int first = many - 4 * (groups - 1);
                for (int k = 0; k < many; k++) {
                    boolean begins = k == 0 || (k - first) % 4 == 0 && k >= first;
                    Check.due("21: a group at " + k + " of " + many, house.coded(f, k, 5) == 1, begins);
                }
            }
        }
        House flat = reelOf(12);
        flat.set(PLAN, 1);
        // Each picture has one byte, be it I or P.
        ordersAre("the shortest of all ways", flat, BLOCKS, ordersDue(12, 1, 0));
    }

    private static House scenes() {
        House house = new House();
        for (int p = 0; p < 9; p++) {
            house.blank(8, 8, 128, 128, 128);
            house.noise(p, 0, p / 3 + p / 4, 90);
            house.noise(p, 0, p, 9);
            house.reel(p);
        }
        house.set(PLAN, 1);
        return house;
    }

    /** "(PLAN counts with the STEP told then, and SIZE comes after.)" */
    private static void plannedAheadOfSize() {
        House free = scenes();
        String want = ordersOf(free, free.make(BLOCKS));
        Check.due("20: more than one group, less than nine", free.film(0, 6) > 1 && free.film(0, 6) < 9, true);
        int[][] buffers = {{1000, 400}, {2000, 300}, {20000, 10000}};
        for (int[] buffer : buffers) {
            House house = scenes();
            house.set(SIZE, buffer[0]);
            house.set(FLOW, buffer[1]);
            ordersAre("a plan with SIZE " + buffer[0], house, BLOCKS, want);
            int most = 0;
            for (int k = 0; k < 9; k++) {
                most = Math.max(most, house.coded(0, k, 2));
            }
            Check.due("21: STEPs were changed by SIZE " + buffer[0], most > 4, buffer[0] < 20000);
        }
    }

    private static void rates() {
        int[] rates = {1, 25, 60};
        for (int rate : rates) {
            House house = reelOf(1);
            house.set(RATE, rate);
            for (int coding = 0; coding < 3; coding++) {
                Check.due("20: RATE", house.film(house.make(coding), 3), rate);
            }
        }
    }

    /** "of each place (|C| + STEP / 2) / STEP (whole parts)": of one sample all sixteen |C| are the same. */
    private static void levelsRounded() {
        for (int e = -6; e <= 6; e++) {
            for (int step = 1; step <= 15; step++) {
                House house = new House();
                house.blank(8, 8, 128, 128, 128);
                house.put(0, 2, 1, 2, 128 + e);
                house.reel(0);
                house.set(STEP, step);
                int f = house.make(BLOCKS);
                int level = (Math.abs(e) + step / 2) / step;
                Check.due("22: levels of " + e + " with STEP " + step, house.part(f, 0, 0, 5), level == 0 ? 0 : 16);
                int rest = Math.floorDiv(16 * level * step + 8, 16) * (e < 0 ? -1 : 1);
                Check.due("23: " + e + " with STEP " + step, house.look(f, 0, 2, 1, 2), 128 + rest);
            }
        }
    }

    /** "with its sign": of a block that is all the same one level is left. */
    private static void levelsOfBothSigns() {
        int[] values = {0, 1, 100, 126, 127, 128, 129, 130, 200, 254, 255};
        int[] steps = {1, 2, 15, 16, 30, 31};
        for (int v : values) {
            for (int step : steps) {
                House house = new House();
                house.blank(8, 8, 128, v, 128);
                house.reel(0);
                house.set(STEP, step);
                int f = house.make(BLOCKS);
                int c = 16 * (v - 128);
                int level = (Math.abs(c) + step / 2) / step * (c < 0 ? -1 : 1);
                Check.due("22: levels of " + v, house.part(f, 0, 0, 5), level == 0 ? 0 : 1);
                int want = Math.max(0, Math.min(255, 128 + Math.floorDiv(level * step + 8, 16)));
                Check.due("23: " + v + " with STEP " + step, house.look(f, 0, 1, 3, 3), want);
            }
        }
    }

    /** "of all x, y from -REACH to REACH": what is moved by so many halves is found, by one more it isn't. */
    private static void reach() {
        int[][] ways = {{1, 0}, {-1, 0}, {0, 1}, {0, -1}};
        for (int[] way : ways) {
            for (int reach = 1; reach <= 8; reach++) {
                int samples = (reach + 1) / 2;
                House house = new House();
                house.blank(24, 24, 128, 128, 128);
                house.noise(0, 0, 9L, 100);
                house.shift(0, samples * way[0], samples * way[1]);
                house.reel(0);
                house.reel(1);
                house.set(STEP, 1);
                house.set(REACH, reach);
                int f = house.make(BLOCKS);
                // The part in the middle sees no side within four samples.
                int x = house.part(f, 1, 4, 1);
                int y = house.part(f, 1, 4, 2);
                boolean found = x == -2 * samples * way[0] && y == -2 * samples * way[1];
                Check.due("17: " + samples + " samples with REACH " + reach, found, reach % 2 == 0);
                Check.due("17: within REACH " + reach, Math.max(Math.abs(x), Math.abs(y)) <= reach, true);
            }
        }
        House none = new House();
        none.blank(8, 8, 128, 128, 128);
        none.noise(0, 0, 9L, 100);
        none.shift(0, 1, 0);
        none.reel(0);
        none.reel(1);
        none.set(REACH, 0);
        int f = none.make(BLOCKS);
        Check.due("17: x with REACH 0", none.part(f, 1, 0, 1), 0);
        Check.due("17: y with REACH 0", none.part(f, 1, 0, 2), 0);
    }

    /** "of several the least y, then the least x": what was in the middle goes to all four corners. */
    private static void leastVector() {
        for (int reach = 2; reach <= 6; reach++) {
            House house = new House();
            house.blank(8, 8, 0, 128, 128);
            house.fill(0, 0, 3, 3, 2, 2, 100);
            house.blank(8, 8, 0, 128, 128);
            for (int i = 0; i < 4; i++) {
                house.put(1, 0, i % 2 == 0 ? 2 : 5, i / 2 == 0 ? 2 : 5, 100);
            }
            house.reel(0);
            house.reel(1);
            house.set(STEP, 1);
            house.set(REACH, reach);
            int f = house.make(BLOCKS);
            // 2 and 3 halves to each side are as near and have as many bits.
            Check.due("17: FORWARD", house.part(f, 1, 0, 0), 1);
            Check.due("17: the least x", house.part(f, 1, 0, 1), -Math.min(reach, 3));
            Check.due("17: the least y", house.part(f, 1, 0, 2), -Math.min(reach, 3));
        }
    }

    /** "each part the WAY with the least COST, of several the least". */
    private static void leastWay() {
        House house = new House();
        house.blank(24, 24, 128, 128, 128);
        house.reel(0);
        house.reel(0);
        house.reel(0);
        house.set(BETWEEN, 1);
        int f = house.make(BLOCKS);
        for (int k = 0; k < 3; k++) {
            for (int m = 0; m < 9; m++) {
                Check.due("17: way 0 of kind " + house.coded(f, k, 0), house.part(f, k, m, 0), 0);
            }
        }
    }

    /** "bits of its two signed codes": where all are as near, that which the part on the left has. */
    private static void vectorByTheLeft() {
        House house = new House();
        house.blank(24, 8, 100, 128, 128);
        house.noise(0, 0, 9L, 40);
        house.fill(0, 0, 12, 0, 12, 8, 200);
        house.shift(0, 1, -2);
        // What is flat is lighter than it was, so that it needs levels and is not SKIPPED.
        house.fill(1, 0, 16, 0, 8, 8, 220);
        house.fill(1, 0, 15, 0, 1, 8, 20);
        house.reel(0);
        house.reel(1);
        house.set(STEP, 1);
        house.set(REACH, 8);
        int f = house.make(BLOCKS);
        Check.due("22: x of the part on the left", house.part(f, 1, 1, 1), -2);
        Check.due("22: y of the part on the left", house.part(f, 1, 1, 2), 4);
        Check.due("22: FORWARD", house.part(f, 1, 2, 0), 1);
        Check.due("17: x, all being as near", house.part(f, 1, 2, 1), -2);
        Check.due("17: y, all being as near", house.part(f, 1, 2, 2), 4);
    }

    /** LEFT and ABOVE are as dear in a picture that is the same if it is turned; so are both anchors if they are. */
    private static void leastWayOfSeveral() {
        House house = new House();
        house.blank(16, 16, 128, 128, 128);
        Check.text(house, "i(n,128,(x*x+y*y+x*y*t)%251)");
        house.filter();
        house.apply(0, 0, 19);
        house.reel(1);
        house.set(STEP, 1);
        Check.due("17: LEFT", house.part(house.make(BLOCKS), 0, 3, 0), 1);
        House moved = new House();
        moved.blank(24, 24, 128, 128, 128);
        moved.noise(0, 0, 7L, 90);
        moved.shift(0, 1, 1);
        moved.reel(0);
        moved.reel(1);
        moved.reel(0);
        moved.set(BETWEEN, 1);
        moved.set(STEP, 1);
        int f = moved.make(BLOCKS);
        Check.due("17: FORWARD ahead of BACKWARD", moved.part(f, 2, 4, 0), 1);
        Check.due("22: x", moved.part(f, 2, 4, 1), -2);
        Check.due("22: y", moved.part(f, 2, 4, 2), -2);
    }

    /** "how far its samples (of all planes, as they are read) are from the picture's": one sample is enough. */
    private static void everySampleCounts() {
        for (int i = 0; i < 96; i++) {
            int plane = i < 64 ? 0 : i < 80 ? 1 : 2;
            int wide = plane == 0 ? 8 : 4;
            int at = plane == 0 ? i : i % 16;
            House house = new House();
            house.blank(8, 8, 100, 100, 100);
            house.reel(0);
            house.put(0, plane, at % wide, at / wide, 200);
            house.reel(0);
            house.set(STEP, 1);
            int f = house.make(BLOCKS);
            Check.due("17: not SKIPPED for sample " + i, house.part(f, 1, 0, 0) > 0, true);
            Check.due("23: sample " + i, house.look(f, 1, plane, at % wide, at / wide), 200);
        }
    }

    /** "(These are samples of the picture as it is made so far.)": levels are those of what is read then. */
    private static void asTheyAreRead() {
        int[] steps = {8, 20, 31};
        for (int step : steps) {
            House house = new House();
            house.blank(24, 8, 128, 128, 128);
            Check.text(house, "(y*37)%200+20");
            house.filter();
            house.apply(0, 0, 0);
            house.noise(1, 0, 3L, 25);
            house.reel(1);
            house.set(STEP, step);
            int f = house.make(BLOCKS);
            int[][] read = new int[8][24];
            int[][] told = new int[8][24];
            for (int i = 0; i < 192; i++) {
                read[i / 24][i % 24] = house.look(f, 0, 0, i % 24, i / 24);
                told[i / 24][i % 24] = house.sample(1, 0, i % 24, i / 24);
            }
            for (int m = 0; m < 3; m++) {
                Check.due("22: LEFT where there is one", house.part(f, 0, m, 0), m == 0 ? 0 : 1);
                for (int block = 0; block < 4; block++) {
                    blockIsRead(read, told, 8 * m, block, step);
                }
            }
        }
    }

    private static final int[][] H = {{1, 1, 1, 1}, {1, 1, -1, -1}, {1, -1, -1, 1}, {1, -1, 1, -1}};

    private static int[][] turned(int[][] q) {
        int[][] all = new int[4][4];
        for (int i = 0; i < 256; i++) {
            int r = i / 64;
            int c = i / 16 % 4;
            all[r][c] += H[r][i / 4 % 4] * q[i / 4 % 4][i % 4] * H[i % 4][c];
        }
        return all;
    }

    private static void blockIsRead(int[][] read, int[][] told, int left, int block, int step) {
        int x = left + block % 2 * 4;
        int y = block / 2 * 4;
        int[][] e = new int[4][4];
        for (int i = 0; i < 16; i++) {
            int foretold = left == 0 ? 128 : read[y + i / 4][left - 1];
            e[i / 4][i % 4] = told[y + i / 4][x + i % 4] - foretold;
        }
        int[][] levels = turned(e);
        for (int i = 0; i < 16; i++) {
            int c = levels[i / 4][i % 4];
            levels[i / 4][i % 4] = (Math.abs(c) + step / 2) / step * (c < 0 ? -step : step);
        }
        int[][] rest = turned(levels);
        for (int i = 0; i < 16; i++) {
            int foretold = left == 0 ? 128 : read[y + i / 4][left - 1];
            int want = Math.max(0, Math.min(255, foretold + (rest[i / 4][i % 4] + 8 >> 4)));
            Check.due("23: STEP " + step + " at " + (x + i % 4) + ", " + (y + i / 4), read[y + i / 4][x + i % 4], want);
        }
    }

    private static House oneLoud() {
        House house = new House();
        house.blank(8, 8, 100, 120, 130);
        house.noise(0, 0, 3L, 60);
        house.reel(0);
        return house;
    }

    private static int bitsOf(int step) {
        House house = oneLoud();
        house.set(STEP, step);
        return 8 * house.coded(house.make(BLOCKS), 0, 3);
    }

    private static int stepWith(int size, int flow) {
        House house = oneLoud();
        house.set(SIZE, size);
        house.set(FLOW, flow);
        int f = house.make(BLOCKS);
        return f < 0 ? -1 : house.coded(f, 0, 2);
    }

    /** "a BUFFER has SIZE / 2 (whole part) bits". */
    private static void halfOfSize() {
        int bits = bitsOf(4);
        int half = bits - 50;
        Check.due("17: half of an even SIZE", stepWith(2 * half, 50), 4);
        Check.due("17: half of an odd SIZE", stepWith(2 * half + 1, 50), 4);
        Check.due("17: one bit less", stepWith(2 * half - 2, 50) > 4, true);
        Check.due("17: half of an odd SIZE, one bit less", stepWith(2 * half - 1, 50) > 4, true);
        Check.due("17: one bit more", stepWith(2 * half, 51), 4);
        House house = oneLoud();
        int f = house.make(BLOCKS);
        Check.due("26: half of an even size", house.buffer(f, 0, 2 * half, 50), 0);
        Check.due("26: half of an odd size", house.buffer(f, 0, 2 * half + 1, 50), 0);
        Check.due("26: half of an odd size, one bit less", house.buffer(f, 0, 2 * half - 1, 50), -1);
    }

    /** "(at most SIZE are there)". */
    private static void noMoreThanSize() {
        int bits = bitsOf(4);
        Check.due("17: just so many", stepWith(bits, 10000), 4);
        Check.due("17: one less", stepWith(bits - 1, 10000) > 4, true);
        House house = oneLoud();
        int f = house.make(BLOCKS);
        Check.due("26: just so many", house.buffer(f, 0, bits, 10000), 0);
        Check.due("26: one less, though it be below 0", house.buffer(f, 0, bits - 1, 10000), -1);
        Check.due("26: one more", house.buffer(f, 0, bits + 1, 10000), 1);
        Check.due("26: far below 0", house.buffer(f, 0, 100, 50), 100 - bits);
    }

    /** "for each picture .. FLOW come, then the picture's bits go": the second has what the first left. */
    private static void flowComesAgain() {
        int bits = bitsOf(4);
        for (int more = -1; more <= 1; more++) {
            House house = oneLoud();
            house.reel(0);
            house.set(GROUP, 1);
            // Half and a flow are enough for the first; what is left and another flow for the second.
            int flow = 400;
            int size = 2 * (2 * bits - 2 * flow + more);
            house.set(SIZE, size);
            house.set(FLOW, flow);
            int f = house.make(BLOCKS);
            Check.due("17: the first", house.coded(f, 0, 2), 4);
            Check.due("17: the second with " + more + " bits more", house.coded(f, 1, 2) > 4, more < 0);
            if (more >= 0) {
                Check.due("26: what is left", house.buffer(f, 1, size, flow), more);
            }
        }
    }

    /** "its STEP is the least one, from STEP on": 31 is the last; "without one the film is not made". */
    private static void lastStep() {
        int before = bitsOf(30);
        int last = bitsOf(31);
        int[] all = {before, last};
        int[] want = {30, 31};
        for (int i = 0; i < 2; i++) {
            House house = oneLoud();
            house.set(STEP, want[i]);
            house.set(SIZE, all[i]);
            house.set(FLOW, 10000);
            Check.due("17: STEP " + want[i] + " itself", house.coded(house.make(BLOCKS), 0, 2), want[i]);
        }
        Check.due("17: the last STEP", stepWith(last, 10000) <= 31, true);
        House house = oneLoud();
        house.set(STEP, 31);
        house.set(SIZE, last - 1);
        house.set(FLOW, 10000);
        Check.due("17: one bit is lacking with the last STEP", house.make(BLOCKS), -1);
        Check.due("43: no film came", house.count(1), 0);
        Check.due("43: the reel stays", house.count(3), 1);
        house.set(SIZE, last);
        Check.due("17: none is lacking", house.make(BLOCKS), 0);
    }

    private static House large(long seed, int amount) {
        House house = new House();
        house.blank(24, 24, 128, 128, 128);
        for (int plane = 0; plane < 3; plane++) {
            house.noise(0, plane, seed + plane, amount);
        }
        house.reel(0);
        house.set(STEP, 1);
        return house;
    }

    /** "A picture of more than 2000 bytes: not made", "nor if the picture has more than 2000 bytes with that STEP". */
    private static void twoThousandBytes() {
        House fits = large(38L, 150);
        Check.due("17: 2000 bytes", fits.coded(fits.make(BLOCKS), 0, 3), 2000);
        fits.set(SIZE, 20000);
        fits.set(FLOW, 6000);
        Check.due("17: 2000 bytes through a buffer", fits.coded(fits.make(BLOCKS), 0, 2), 1);
        fits.set(FLOW, 5999);
        Check.due("17: one bit is lacking for 2000", fits.coded(fits.make(BLOCKS), 0, 2), 2);
        House above = large(5L, 140);
        Check.due("17: 2001 bytes", above.make(BLOCKS), -1);
        above.set(SIZE, 20000);
        above.set(FLOW, 6008);
        Check.due("17: 2001 bytes through a buffer", above.make(BLOCKS), -1);
        Check.due("43: no film came", above.count(1), 0);
        above.set(FLOW, 6007);
        Check.due("17: one bit is lacking for 2001, so that another STEP is told", above.make(BLOCKS), 0);
        Check.due("21: which is 2", above.coded(0, 0, 2), 2);
        above.set(SIZE, 0);
        above.set(PLAN, 1);
        Check.due("17: 2001 bytes by a plan", above.make(BLOCKS), -1);
        Check.due("17: of RUNS it is made", above.make(RUNS), 1);
        Check.due("17: of WAVES it is made", above.make(WAVES), 2);
    }

    /** "SIZE not 0 (BLOCKS)". */
    private static void sizeOfOthers() {
        House house = oneLoud();
        house.set(SIZE, 100);
        house.set(FLOW, 50);
        Check.due("17: of BLOCKS it is not made", house.make(BLOCKS), -1);
        Check.due("17: of WAVES it is", house.make(WAVES), 0);
        Check.due("17: of RUNS it is", house.make(RUNS), 1);
    }

    private static int codeLength(int v) {
        return 2 * (32 - Integer.numberOfLeadingZeros(v + 1)) - 1;
    }

    /** Whether a run of a way can be so long. */
    private static boolean fits(int[] now, int[] before, int wide, int at, int way, int length) {
        for (int i = at; i < at + length; i++) {
            boolean same = way == 3 || way == 0 && now[i] == now[at] || way == 1 && before != null && now[i] == before[i]
                || way == 2 && at >= wide && now[i] == now[i - wide];
            if (!same) {
                return false;
            }
        }
        return true;
    }

    /** All ways and all lengths at each sample, from the end on: plain, and slow. */
    private static void writeRuns(Check.Bits to, int[] now, int[] before, int wide) {
        int all = now.length;
        int[] need = new int[all + 1];
        int[] ways = new int[all];
        int[] lengths = new int[all];
        for (int at = all - 1; at >= 0; at--) {
            need[at] = Integer.MAX_VALUE;
            for (int way = 0; way < 4; way++) {
                for (int length = all - at; length >= 1; length--) {
                    int bits = codeLength(way) + codeLength(length - 1) + (way == 0 ? 8 : way == 3 ? 8 * length : 0);
                    if (bits + need[at + length] < need[at] && fits(now, before, wide, at, way, length)) {
                        need[at] = bits + need[at + length];
                        ways[at] = way;
                        lengths[at] = length;
                    }
                }
            }
        }
        for (int at = 0; at < all; at += lengths[at]) {
            to.code(ways[at]).code(lengths[at] - 1);
            for (int i = 0; i < (ways[at] == 0 ? 1 : ways[at] == 3 ? lengths[at] : 0); i++) {
                to.eight(now[at + i]);
            }
        }
    }

    private static int[] planeOf(House house, int p, int plane) {
        int wide = house.size(p, 0) / (plane == 0 ? 1 : 2);
        int high = house.size(p, 1) / (plane == 0 ? 1 : 2);
        int[] all = new int[wide * high];
        for (int i = 0; i < all.length; i++) {
            all[i] = house.sample(p, plane, i % wide, i / wide);
        }
        return all;
    }

    /** Pictures of few values, in which many ways are as short. */
    private static House fewValues(int round) {
        House house = new House();
        house.blank(8, 8, 0, 0, 0);
        Check.text(house, "(x*x*7+y*t+x*y*3+n*5)%" + (2 + round % 4) + "*40");
        house.filter();
        house.apply(0, 0, round);
        house.apply(0, 0, round + (round % 3 == 0 ? 4 : 1));
        house.noise(1, 0, round, round % 3);
        house.noise(2, 0, round, round % 3);
        house.reel(1);
        house.reel(2);
        house.make(RUNS);
        return house;
    }

    /** "each plane with the fewest bits; of several such ways .. the least way first, then the greatest length". */
    private static void runsAsTold() {
        for (int round = 0; round < 40; round++) {
            int seed = round;
            Check.Bits first = Check.bits();
            Check.Bits second = Check.bits();
            for (int plane = 0; plane < 3; plane++) {
                House house = fewValues(round);
                int wide = plane == 0 ? 8 : 4;
                int[] one = planeOf(house, 1, plane);
                int[] two = planeOf(house, 2, plane);
                writeRuns(first, one, null, wide);
                writeRuns(second, two, one, wide);
            }
            int[] want = Check.join(Check.head(RUNS, 8, 8, 25, 2), Check.picture(0, 0, 0, first), Check.picture(1, 1, 0, second));
            int[] got = Check.bytesOf(() -> fewValues(seed), 0);
            Check.due("17: bytes of RUNS, round " + round, got.length, want.length);
            for (int i = 0; i < Math.min(got.length, want.length); i++) {
                Check.due("17: byte " + i + " of RUNS, round " + round, got[i], want[i]);
            }
        }
    }

    /** From row 1 on SAME and DOWN are as short: "the least way first". */
    private static void sameAheadOfDown() {
        House house = new House();
        house.blank(8, 8, 0, 0, 0);
        for (int x = 0; x < 8; x++) {
            house.fill(0, 0, x, 0, 1, 8, 30 * x + 7);
            house.put(0, 0, x, 0, 5 * x + 100);
        }
        house.reel(0);
        for (int x = 0; x < 8; x++) {
            house.put(0, 0, x, 0, 30 * x + 7);
        }
        house.reel(0);
        int f = house.make(RUNS);
        int from = house.coded(f, 1, 4) + 5;
        house.bytes(f);
        Check.Bits want = Check.bits().code(0).code(0).eight(7).code(3).code(6);
        for (int x = 1; x < 8; x++) {
            want.eight(30 * x + 7);
        }
        int[] due = want.code(1).code(55).code(1).code(15).code(1).code(15).bytes();
        Check.due("21: bytes", house.coded(f, 1, 3), due.length);
        for (int i = 0; i < due.length; i++) {
            Check.due("17: byte " + i + " of RUNS", house.tape(from + i), due[i]);
        }
    }
}
