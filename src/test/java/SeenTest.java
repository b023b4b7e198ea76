/** Promises 33 to 36: distances, shots, doubles, movement. */
public final class SeenTest {
    public static void main(String[] args) {
        distance();
        first();
        twin();
        movement();
        Check.end("SeenTest");
    }

    private static void distance() {
        House house = new House();
        house.blank(8, 16, 100, 100, 100);
        house.shift(0, 0, 0);
        house.put(1, 0, 7, 15, 90);
        house.put(1, 0, 0, 0, 103);
        house.put(1, 1, 3, 7, 255);
        house.put(1, 2, 0, 0, 99);
        Check.due("33: the sum", house.distance(0, 1, 0), 10 + 3 + 155 + 1);
        Check.due("33: of squares", house.distance(1, 0, 1), 100 + 9 + 155 * 155 + 1);
        Check.due("33: how many", house.distance(0, 1, 2), 4);
        Check.due("33: the greatest of plane 0", house.distance(0, 1, 3), 10);
        Check.due("33: of itself", house.distance(1, 1, 1), 0);
        house.blank(16, 8, 100, 100, 100);
        Check.noSuch("33: picture", () -> house.distance(0, 3, 0));
        Check.noSuch("33: picture ahead of what", () -> house.distance(-1, 0, 4));
        Check.badArgument("33: two sizes", () -> house.distance(0, 2, 0));
        Check.badArgument("33: what", () -> house.distance(0, 1, 4));
        Check.badArgument("33: what below 0", () -> house.distance(0, 1, -1));
    }

    /** A film of RUNS, which shows the pictures of the reel as they are. */
    private static void first() {
        House house = new House();
        house.blank(8, 8, 15, 0, 0);
        house.reel(0);
        house.fill(0, 0, 0, 0, 8, 4, 16);
        house.reel(0);
        house.fill(0, 0, 0, 0, 8, 8, 15);
        house.reel(0);
        house.fill(0, 0, 0, 0, 8, 4, 255);
        house.put(0, 0, 0, 4, 240);
        house.reel(0);
        house.fill(0, 1, 0, 0, 4, 4, 255);
        house.reel(0);
        int f = house.make(2);
        boolean[] want = {true, false, false, true, false};
        for (int place = 0; place < want.length; place++) {
            Check.due("34: at " + place, house.first(f, place), want[place]);
        }
        Check.noSuch("34: film", () -> house.first(1, 0));
        Check.noSuch("34: place", () -> house.first(0, 5));
        Check.noSuch("34: place below 0", () -> house.first(0, -1));
    }

    private static void twin() {
        House house = new House();
        house.blank(8, 8, 15, 0, 0);
        house.blank(8, 8, 15, 0, 1);
        house.blank(8, 8, 15, 1, 0);
        int[] order = {0, 1, 0, 2, 1, 0};
        for (int p : order) {
            house.reel(p);
        }
        int f = house.make(2);
        int[] want = {-1, -1, 0, -1, 1, 0};
        for (int place = 0; place < want.length; place++) {
            Check.due("35: at " + place, house.twin(f, place), want[place]);
        }
        Check.noSuch("35: film", () -> house.twin(1, 0));
        Check.noSuch("35: place", () -> house.twin(0, 6));
        Check.noSuch("35: place below 0", () -> house.twin(0, -1));
    }

    private static void movement() {
        House house = new House();
        house.blank(24, 16, 100, 100, 100);
        house.noise(0, 0, 5L, 90);
        house.reel(0);
        house.shift(0, 3, -2);
        house.reel(1);
        house.blank(24, 16, 7, 7, 7);
        house.reel(2);
        house.blank(24, 16, 9, 100, 100);
        house.reel(3);
        house.shift(0, 4, 4);
        house.reel(0);
        house.reel(4);
        int f = house.make(2);
        Check.due("36: x", house.movement(f, 1, 1, 0), -3);
        Check.due("36: y", house.movement(f, 1, 1, 1), 2);
        Check.due("36: the sum", house.movement(f, 1, 1, 2), 0);
        Check.due("36: none is the least |x| + |y|", house.movement(f, 3, 5, 0), 0);
        Check.due("36: none is the least |x| + |y|", house.movement(f, 3, 5, 1), 0);
        Check.due("36: the sum", house.movement(f, 3, 5, 2), 2 * 64);
        Check.due("36: as far as can be", house.movement(f, 5, 5, 0), -4);
        Check.due("36: as far as can be", house.movement(f, 5, 5, 1), -4);
        ties(house);
        Check.noSuch("36: film", () -> house.movement(2, 1, 0, 0));
        Check.noSuch("36: place 0", () -> house.movement(0, 0, 0, 0));
        Check.noSuch("36: place", () -> house.movement(0, 6, 0, 0));
        Check.noSuch("36: place below 0", () -> house.movement(0, -1, 0, 0));
        Check.noSuch("36: part ahead of what", () -> house.movement(0, 1, 6, 3));
        Check.noSuch("36: part below 0", () -> house.movement(0, 1, -1, 0));
        Check.badArgument("36: what", () -> house.movement(0, 1, 5, 3));
        Check.badArgument("36: what below 0", () -> house.movement(0, 1, 5, -1));
    }

    /** Boards and stripes whose fields have changed: several ways are as near. */
    private static void ties(House house) {
        house.unreel();
        house.drop(0);
        house.blank(24, 24, 0, 0, 0);
        Check.text(house, "100*((x+y+t)%2)");
        int board = house.filter();
        Check.text(house, "100*((x+t)%2)");
        int stripes = house.filter();
        for (int t = 0; t < 2; t++) {
            house.reel(house.apply(board, 0, t));
        }
        for (int t = 0; t < 2; t++) {
            house.reel(house.apply(stripes, 0, t));
        }
        int f = house.make(2);
        Check.due("36: the least y of several", house.movement(f, 1, 4, 1), -1);
        Check.due("36: and its x", house.movement(f, 1, 4, 0), 0);
        Check.due("36: then the least x", house.movement(f, 3, 4, 0), -1);
        Check.due("36: with the least |x| + |y|", house.movement(f, 3, 4, 1), 0);
        Check.due("36: the sum", house.movement(f, 3, 4, 2), 0);
    }
}
