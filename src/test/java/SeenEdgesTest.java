/** Term 9 and promises 33 to 36: the lines that likenesses and movement have. */
public final class SeenEdgesTest {
    private static final int RUNS = 2;

    public static void main(String[] args) {
        leastDistance();
        greatestDistance();
        planesOfDistance();
        sizesOfDistance();
        firstOfAll();
        moreThanSamples();
        rangesOfSixteen();
        aheadAlone();
        doubles();
        farthestMovement();
        movementAtTheSides();
        nearestOfSeveral();
        movementOfParts();
        Check.end("SeenEdgesTest");
    }

    private static void leastDistance() {
        House house = new House();
        house.blank(8, 8, 5, 6, 7);
        house.blank(8, 8, 5, 6, 7);
        for (int what = 0; what < 4; what++) {
            Check.due("33: of itself", house.distance(0, 0, what), 0);
            Check.due("33: of another that is the same", house.distance(0, 1, what), 0);
        }
    }

    private static void greatestDistance() {
        House house = new House();
        house.blank(24, 24, 0, 0, 0);
        house.blank(24, 24, 255, 255, 255);
        int[] want = {864 * 255, 864 * 255 * 255, 864, 255};
        for (int what = 0; what < 4; what++) {
            Check.due("33: as far as can be", house.distance(0, 1, what), want[what]);
            Check.due("33: the other way round", house.distance(1, 0, what), want[what]);
        }
    }

    /** "of all samples", but "3 of plane 0": the last sample of each plane. */
    private static void planesOfDistance() {
        for (int plane = 0; plane < 3; plane++) {
            House house = new House();
            house.blank(16, 24, 100, 100, 100);
            house.blank(16, 24, 100, 100, 100);
            house.put(1, plane, plane == 0 ? 15 : 7, plane == 0 ? 23 : 11, 93);
            int[] want = {7, 49, 1, plane == 0 ? 7 : 0};
            for (int what = 0; what < 4; what++) {
                Check.due("33: the last sample of plane " + plane, house.distance(0, 1, what), want[what]);
            }
        }
    }

    /** "they are of two sizes". */
    private static void sizesOfDistance() {
        int[] sides = {8, 16, 24};
        for (int width : sides) {
            for (int height : sides) {
                House house = new House();
                house.blank(16, 8, 1, 1, 1);
                house.blank(width, height, 1, 1, 1);
                if (width == 16 && height == 8) {
                    Check.due("33: of one size", house.distance(0, 1, 0), 0);
                } else {
                    Check.badArgument("33: of two sizes", () -> house.distance(0, 1, 0));
                    Check.badArgument("33: of two sizes", () -> house.distance(1, 0, 3));
                }
            }
        }
    }

    /** "A picture shown is a SHOT'S FIRST if it is the first one". */
    private static void firstOfAll() {
        House house = new House();
        house.blank(8, 8, 1, 1, 1);
        house.reel(0);
        house.reel(0);
        int f = house.make(RUNS);
        Check.due("34: the first one", house.first(f, 0), true);
        Check.due("34: the same behind it", house.first(f, 1), false);
    }

    /** "differ, together, by more than how many samples plane 0 has". */
    private static void moreThanSamples() {
        int[][] sizes = {{8, 8}, {16, 8}, {24, 24}};
        for (int[] size : sizes) {
            int all = size[0] * size[1];
            for (int moved = all / 2 - 1; moved <= all / 2 + 1; moved++) {
                House house = new House();
                house.blank(size[0], size[1], 10, 1, 1);
                house.reel(0);
                house.fill(0, 0, 0, 0, size[0], moved / size[0], 200);
                house.fill(0, 0, 0, moved / size[0], moved % size[0], 1, 200);
                house.fill(0, 1, 0, 0, 12, 12, 255);
                house.fill(0, 2, 0, 0, 12, 12, 255);
                house.reel(0);
                int f = house.make(RUNS);
                // Each one that goes to another range differs twice, there and here.
                Check.due("34: " + moved + " of " + all, house.first(f, 1), 2 * moved > all);
            }
        }
    }

    /** "in the 16 ranges 0 .. 15, 16 .. 31, ..": on both sides of each line. */
    private static void rangesOfSixteen() {
        for (int range = 0; range < 16; range++) {
            House house = new House();
            int low = 16 * range;
            int[] values = {low, low + 15, low + 15 < 255 ? low + 16 : low};
            for (int v : values) {
                house.reel(house.blank(8, 8, v, 1, 1));
            }
            int f = house.make(RUNS);
            Check.due("34: from " + low + " to " + (low + 15), house.first(f, 1), false);
            Check.due("34: from " + (low + 15) + " to " + values[2], house.first(f, 2), range < 15);
        }
    }

    /** Plane 0 counts alone, where its samples lie doesn't, and it is the one ahead that is compared. */
    private static void aheadAlone() {
        House house = new House();
        house.reel(house.blank(8, 8, 0, 0, 0));
        house.reel(house.blank(8, 8, 0, 255, 255));
        int p = house.blank(8, 8, 255, 255, 255);
        house.reel(p);
        house.fill(p, 0, 0, 0, 8, 4, 0);
        house.reel(p);
        house.reel(house.shift(p, 0, 0));
        int turned = house.blank(8, 8, 0, 0, 0);
        house.fill(turned, 0, 0, 0, 8, 4, 255);
        house.reel(turned);
        house.reel(0);
        int f = house.make(RUNS);
        boolean[] want = {true, false, true, false, false, false, false};
        for (int place = 0; place < want.length; place++) {
            Check.due("34: place " + place, house.first(f, place), want[place]);
        }
    }

    /** "a DOUBLE of the first one shown ahead of it that is the same"; "-1 without". */
    private static void doubles() {
        House house = new House();
        int[] values = {5, 6, 5, 5, 6, 7};
        for (int v : values) {
            house.reel(house.blank(8, 8, v, 1, 1));
        }
        for (int plane = 0; plane < 3; plane++) {
            int p = house.blank(8, 8, 7, 1, 1);
            int last = plane == 0 ? 7 : 3;
            house.put(p, plane, last, last, 2);
            house.reel(p);
        }
        house.reel(house.blank(8, 8, 7, 1, 1));
        int f = house.make(RUNS);
        int[] want = {-1, -1, 0, 0, 1, -1, -1, -1, -1, 5};
        for (int place = 0; place < want.length; place++) {
            Check.due("35: place " + place, house.twin(f, place), want[place]);
        }
    }

    private static House moved(int dx, int dy) {
        House house = new House();
        house.blank(24, 24, 128, 1, 1);
        house.noise(0, 0, 12L, 100);
        house.shift(0, dx, dy);
        house.reel(0);
        house.reel(1);
        house.make(RUNS);
        return house;
    }

    /** "of all whole x, y -4 .. 4". */
    private static void farthestMovement() {
        for (int d = -6; d <= 6; d++) {
            boolean found = d >= -4 && d <= 4;
            House across = moved(d, 0);
            Check.due("36: the sum of " + d + " across", across.movement(0, 1, 4, 2) == 0, found);
            House down = moved(0, d);
            Check.due("36: the sum of " + d + " down", down.movement(0, 1, 4, 2) == 0, found);
            House both = moved(d, -d);
            Check.due("36: the sum of " + d + " both ways", both.movement(0, 1, 4, 2) == 0, found);
            if (found) {
                Check.due("36: x", across.movement(0, 1, 4, 0), -d);
                Check.due("36: y", across.movement(0, 1, 4, 1), 0);
                Check.due("36: x", down.movement(0, 1, 4, 0), 0);
                Check.due("36: y", down.movement(0, 1, 4, 1), -d);
                Check.due("36: x", both.movement(0, 1, 4, 0), -d);
                Check.due("36: y", both.movement(0, 1, 4, 1), d);
            }
        }
    }

    /** "A sample beyond a plane is the nearest one of it": shift() and movement look beyond alike. */
    private static void movementAtTheSides() {
        int[][] ways = {{4, 4}, {4, -4}, {-4, 4}, {-4, -4}, {3, 0}, {0, -2}};
        for (int[] way : ways) {
            House house = moved(way[0], way[1]);
            for (int m = 0; m < 9; m++) {
                Check.due("36: x of part " + m, house.movement(0, 1, m, 0), -way[0]);
                Check.due("36: y of part " + m, house.movement(0, 1, m, 1), -way[1]);
                Check.due("36: the sum of part " + m, house.movement(0, 1, m, 2), 0);
            }
        }
    }

    private static void movementIs(String what, String text, int t, int x, int y) {
        House house = new House();
        house.blank(24, 24, 0, 0, 0);
        Check.text(house, text);
        house.filter();
        house.reel(house.apply(0, 0, 0));
        house.reel(house.apply(0, 0, t));
        int f = house.make(RUNS);
        Check.due("36: x: " + what, house.movement(f, 1, 4, 0), x);
        Check.due("36: y: " + what, house.movement(f, 1, 4, 1), y);
        Check.due("36: the sum: " + what, house.movement(f, 1, 4, 2), 0);
    }

    /** "of several the least |x| + |y|, then the least y, then x". */
    private static void nearestOfSeveral() {
        movementIs("all are as near", "9", 1, 0, 0);
        movementIs("a board", "99*((x+y+t)%2)", 1, 0, -1);
        movementIs("stripes down", "99*((x+t)%2)", 1, -1, 0);
        movementIs("stripes across", "99*((y+t)%2)", 1, 0, -1);
        // Every third column: one to the right is nearer than two to the left.
        movementIs("every third column", "99*((x+t)%3/2)", 1, 1, 0);
        movementIs("every third column, the other way", "99*((x+t)%3/2)", 2, -1, 0);
        // Of two steps down the slope, or two across, the least y.
        movementIs("slopes of four", "99*((x+y+t)%4/2)", 2, 0, -2);
        movementIs("far stripes", "99*((x+t)%8/4)", 4, -4, 0);
    }

    /** Parts are numbered row by row, and each has a movement of its own. */
    private static void movementOfParts() {
        House house = new House();
        house.blank(16, 24, 100, 1, 1);
        house.noise(0, 0, 4L, 90);
        house.reel(0);
        house.fill(0, 0, 8, 8, 8, 8, 0);
        house.put(0, 0, 0, 16, house.sample(0, 0, 0, 16) < 128 ? 255 : 0);
        house.reel(0);
        int f = house.make(RUNS);
        for (int m = 0; m < 6; m++) {
            boolean changed = m == 3 || m == 4;
            Check.due("36: part " + m, house.movement(f, 1, m, 2) > 0, changed);
        }
        Check.noSuch("36: no part 6", () -> house.movement(f, 1, 6, 0));
        for (int part = 0; part < 9; part++) {
            for (int corner = 0; corner < 4; corner++) {
                cornerOfPart(part, corner);
            }
        }
    }

    /** A sample in a part's corner is changed: the part alone is not as it was, by that sample. */
    private static void cornerOfPart(int part, int corner) {
        House house = new House();
        house.blank(24, 24, 100, 1, 1);
        house.noise(0, 0, 4L, 90);
        house.reel(0);
        int x = part % 3 * 8 + corner % 2 * 7;
        int y = part / 3 * 8 + corner / 2 * 7;
        int was = house.sample(0, 0, x, y);
        house.put(0, 0, x, y, was < 128 ? was + 20 : was - 20);
        house.reel(0);
        int f = house.make(RUNS);
        for (int m = 0; m < 9; m++) {
            Check.due("36: part " + m + ", a corner of " + part, house.movement(f, 1, m, 2), m == part ? 20 : 0);
        }
    }
}
