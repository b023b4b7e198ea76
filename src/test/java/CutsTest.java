/** Promises 27 to 30: rows, cuts, what is kept, forgetting. */
public final class CutsTest {
    public static void main(String[] args) {
        row();
        keptAndAnew();
        mendedAnew();
        notCut();
        forget();
        Check.end("CutsTest");
    }

    /** Film 0 of seven pictures in groups of three. */
    private static House house(int between) {
        House house = new House();
        house.blank(8, 8, 100, 120, 130);
        house.noise(0, 0, 3L, 60);
        house.reel(0);
        for (int i = 1; i < 7; i++) {
            house.shift(i - 1, 1, i % 2);
            house.noise(i, 1, i, 5);
            house.reel(i);
        }
        house.set(0, 33);
        house.set(1, 3);
        house.set(2, between);
        house.make(0);
        return house;
    }

    private static void row() {
        House house = house(0);
        Check.due("27: how many", house.row(0, 0, 6), 1);
        Check.due("27: how many", house.row(0, 3, 3), 2);
        Check.noSuch("27: film", () -> house.row(1, 0, 0));
        Check.noSuch("27: film below 0", () -> house.row(-1, 0, 0));
        Check.noSuch("27: from", () -> house.row(0, 7, 7));
        Check.noSuch("27: from below 0", () -> house.row(0, -1, 3));
        Check.noSuch("27: to", () -> house.row(0, 3, 7));
        Check.noSuch("27: to below 0, ahead of to below from", () -> house.row(0, 3, -1));
        Check.badArgument("27: to below from", () -> house.row(0, 3, 2));
        house.make(1);
        house.make(2);
        Check.badArgument("27: WAVES", () -> house.row(1, 0, 0));
        Check.badArgument("27: RUNS", () -> house.row(2, 0, 0));
        for (int i = 3; i <= 8; i++) {
            Check.due("27: how many", house.row(0, 1, 1), i);
        }
        Check.badState("27: a ninth", () -> house.row(0, 0, 0));
        Check.badArgument("27: the film is looked at first", () -> house.row(1, 0, 0));
        Check.due("27: nothing was changed", house.count(4), 8);
    }

    /** Film 1 is cut from film 0, while settings that don't count are changed. */
    private static House cutHouse(int between) {
        House house = house(between);
        house.set(0, 44);
        house.set(4, 9);
        house.set(1, 1);
        house.set(5, 100);
        house.set(7, 1);
        house.row(0, 1, 5);
        house.row(0, 6, 6);
        house.row(0, 0, 3);
        Check.due("28: its number", house.cut(), 1);
        return house;
    }

    private static void keptAndAnew() {
        for (int between = 0; between <= 2; between++) {
            House house = cutHouse(between);
            Check.due("28: the list is empty", house.count(4), 0);
            Check.due("20: the rate of the first", house.film(1, 3), 33);
            int[] from = {1, 2, 3, 4, 5, 6, 0, 1, 2, 3};
            boolean[] kept = {false, false, true, true, true, true, true, true, true, false};
            Check.due("28: how many", house.film(1, 4), from.length);
            for (int place = 0; place < from.length; place++) {
                Check.due("29: kept at " + place, house.kept(1, place), kept[place]);
                Check.due("29: a film that was made", place < 7 && house.kept(0, place), false);
                if (kept[place]) {
                    int p = house.shown(0, from[place]);
                    int q = house.shown(1, place);
                    Check.due("28: what is shown", house.distance(p, q, 2), 0);
                    house.drop(p);
                }
            }
            Check.due("20: groups", house.film(1, 6), 5);
            keptBytes(between);
            anew(between);
        }
    }

    /** "byte for byte (but their places)". */
    private static void keptBytes(int between) {
        int[] old = Check.bytesOf(() -> cutHouse(between), 0);
        int[] cut = Check.bytesOf(() -> cutHouse(between), 1);
        House house = cutHouse(between);
        int[] coded = {3, 4, 5, 6, 0, 1, 2};
        for (int i = 0; i < coded.length; i++) {
            int at = house.coded(0, coded[i], 4);
            int to = house.coded(1, i + 2, 4);
            int size = 5 + house.coded(0, coded[i], 3);
            for (int j = 0; j < size; j++) {
                if (j != 1) {
                    Check.due("28: byte for byte", cut[to + j], old[at + j]);
                }
            }
        }
    }

    /** What make() makes of what is shown at places 1 and 2, by the STEP of their group. */
    private static House otherHouse(int between) {
        House other = house(between);
        int p = other.shown(0, 1);
        other.shown(0, 2);
        other.unreel();
        other.reel(p);
        other.reel(p + 1);
        other.set(1, 12);
        other.make(0);
        return other;
    }

    private static void anew(int between) {
        int[] want = Check.bytesOf(() -> otherHouse(between), 1);
        int[] cut = Check.bytesOf(() -> cutHouse(between), 1);
        for (int i = 7; i < want.length; i++) {
            Check.due("28: made anew, byte " + i, cut[i], want[i]);
        }
    }

    /** A broken I that is kept is mended by what is ahead of it in its new film. */
    private static void mendedAnew() {
        House house = house(0);
        house.bytes(0);
        int at = house.coded(0, 3, 4) + 5;
        for (int i = 0; i < 3; i++) {
            house.alter(at + i, 0);
        }
        int f = house.read();
        Check.due("21: broken", house.coded(f, 3, 6), 7);
        Check.due("23: as in the latest anchor", house.look(f, 3, 0, 2, 2), house.look(f, 2, 0, 2, 2));
        house.row(f, 3, 5);
        int g = house.cut();
        Check.due("29: kept", house.kept(g, 0), true);
        Check.due("21: broken still", house.coded(g, 0, 6), 7);
        Check.due("23: the first picture now", house.look(g, 0, 0, 2, 2), 128);
        house.row(f, 3, 4);
        int h = house.cut();
        Check.due("29: made anew", house.kept(h, 0), false);
        Check.due("21: no rule is broken", house.coded(h, 0, 6), 0);
        int near = house.look(h, 0, 0, 2, 2) - house.look(f, 3, 0, 2, 2);
        Check.due("23: from what is shown", near > -30 && near < 30, true);
        house.bytes(g);
        int again = house.read();
        Check.due("29: what was read is not kept", house.kept(again, 0), false);
    }

    private static void notCut() {
        House house = house(0);
        Check.due("28: an empty list", house.cut(), -1);
        house.row(0, 0, 6);
        house.row(0, 0, 5);
        Check.due("28: 13 pictures", house.cut(), -1);
        Check.due("28: the list is empty then", house.count(4), 0);
        house.row(0, 0, 6);
        house.row(0, 0, 4);
        Check.due("28: 12 pictures", house.cut(), 1);
        house.unreel();
        house.reel(house.blank(16, 8, 1, 2, 3));
        house.make(0);
        house.row(0, 0, 0);
        house.row(2, 0, 0);
        Check.due("28: two sizes", house.cut(), -1);
        Check.due("28: no film came", house.count(1), 3);
        for (int i = 3; i < 8; i++) {
            house.make(0);
        }
        house.row(0, 0, 0);
        Check.badState("28: a ninth film", () -> house.cut());
        Check.due("28: the list stays", house.count(4), 1);
        Check.noSuch("29: film", () -> house.kept(8, 0));
        Check.noSuch("29: place", () -> house.kept(0, 7));
        Check.noSuch("29: place below 0", () -> house.kept(0, -1));
        large();
    }

    /** Groups of loud pictures whose first STEP is 1, which can't be made anew. */
    private static void large() {
        House house = new House();
        house.blank(24, 24, 128, 128, 128);
        house.blank(24, 24, 128, 128, 128);
        for (int plane = 0; plane < 3; plane++) {
            house.noise(1, plane, 5L + plane, 255);
        }
        house.reel(0);
        house.reel(1);
        house.set(5, 14000);
        house.set(6, 10000);
        house.set(4, 1);
        int f = house.make(0);
        Check.due("17: a small I with STEP 1", house.coded(f, 0, 2), 1);
        Check.due("17: a large P with another", house.coded(f, 1, 2) > 1, true);
        house.row(f, 1, 1);
        Check.due("28: more than 2000 bytes", house.cut(), -1);
        Check.due("28: the list is empty then", house.count(4), 0);
        house.row(f, 0, 1);
        Check.due("28: it can be kept", house.cut(), 1);
    }

    private static void forget() {
        House house = house(0);
        house.row(0, 0, 0);
        house.cut();
        house.row(0, 0, 0);
        house.play(2, 0, 1, 0);
        Check.due("30: how many films", house.forget(), 2);
        Check.due("30: no films", house.count(1), 0);
        Check.due("30: no rows", house.count(4), 0);
        Check.badState("30: no players", () -> house.tick(2));
        Check.due("30: pictures stay", house.count(0), 7);
        Check.due("30: the reel stays", house.count(3), 7);
        Check.due("30: none", house.forget(), 0);
        Check.due("30: numbers begin anew", house.make(2), 0);
        Check.due("29: nothing of the old film is left", house.kept(0, 0), false);
    }
}
