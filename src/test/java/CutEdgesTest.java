/** Term 7 and promises 27 to 30: the lines that cuts have. */
public final class CutEdgesTest {
    private static final int GROUP = 1;
    private static final int BETWEEN = 2;
    private static final int REACH = 3;
    private static final int STEP = 4;
    private static final int SIZE = 5;
    private static final int FLOW = 6;
    private static final int PLAN = 7;
    /** The groups of film 0 have 3, 3 and 1 pictures. */
    private static final int[] GROUP_OF = {0, 0, 0, 1, 1, 1, 2};
    private static final int[] FIRST_OF = {0, 3, 6};
    private static final int[] LAST_OF = {2, 5, 6};

    public static void main(String[] args) {
        everyRow();
        everyByte();
        emptyList();
        fullList();
        twelvePictures();
        ratesOfTheFirst();
        twoSizes();
        twoThousandBytes();
        eightFilms();
        keptOrNot();
        groupsOfOne();
        neverMade();
        forgotten();
        Check.end("CutEdgesTest");
    }

    /** Film 0, whose pictures have several STEPs. */
    private static House house(int between) {
        House house = new House();
        house.blank(8, 8, 100, 120, 130);
        house.noise(0, 0, 3L, 60);
        house.reel(0);
        for (int i = 1; i < 7; i++) {
            house.shift(i - 1, 1, i % 2);
            house.noise(i, 0, i, 25);
            house.reel(i);
        }
        house.set(GROUP, 3);
        house.set(BETWEEN, between);
        house.set(SIZE, 1600);
        house.set(FLOW, 500);
        house.make(0);
        return house;
    }

    /** Settings that don't count stand against the cut. */
    private static House cutHouse(int between, int from, int to) {
        House house = house(between);
        house.set(0, 60);
        house.set(GROUP, 1);
        house.set(STEP, 31);
        house.set(SIZE, 100);
        house.set(FLOW, 50);
        house.set(PLAN, 1);
        Check.due("27: how many rows", house.row(0, from, to), 1);
        Check.due("28: its number", house.cut(), 1);
        return house;
    }

    private static boolean isWhole(int group, int from, int to) {
        return from <= FIRST_OF[group] && LAST_OF[group] <= to;
    }

    /** "of each row the groups that lie in it wholly are KEPT": each row that can be of seven places. */
    private static void everyRow() {
        for (int from = 0; from < 7; from++) {
            for (int to = from; to < 7; to++) {
                House house = cutHouse(0, from, to);
                Check.due("20: how many pictures", house.film(1, 4), to - from + 1);
                Check.due("20: groups", house.film(1, 6), GROUP_OF[to] - GROUP_OF[from] + 1);
                Check.due("20: RATE", house.film(1, 3), 25);
                Check.due("43: the list is empty then", house.count(4), 0);
                for (int place = from; place <= to; place++) {
                    boolean whole = isWhole(GROUP_OF[place], from, to);
                    String name = "29: place " + place + " of " + from + " .. " + to;
                    Check.due(name, house.kept(1, place - from), whole);
                }
            }
        }
    }

    /** The film that is due: bytes of film 0 where a group is kept, else what make() makes of it. */
    private static int[] filmDue(int between, int from, int to) {
        int[] old = Check.bytesOf(() -> house(between), 0);
        int[] all = Check.head(0, 8, 8, 25, to - from + 1);
        for (int group = GROUP_OF[from]; group <= GROUP_OF[to]; group++) {
            int low = Math.max(from, FIRST_OF[group]);
            int high = Math.min(to, LAST_OF[group]);
            boolean whole = isWhole(group, from, to);
            int first = FIRST_OF[group];
            int[] film = whole ? old : Check.bytesOf(() -> anewHouse(between, first, low, high), 1);
            int base = whole ? first : 0;
            int[] piece = groupOf(film, base, high - low + 1);
            moveTo(piece, low - from - base);
            all = Check.join(all, piece);
        }
        return all;
    }

    private static int headOf(int[] film, int k) {
        int at = 7;
        for (int i = 0; i < k; i++) {
            at += 5 + 256 * film[at + 3] + film[at + 4];
        }
        return at;
    }

    private static int[] groupOf(int[] film, int first, int many) {
        int at = headOf(film, first);
        int end = headOf(film, first + many);
        int[] piece = new int[end - at];
        System.arraycopy(film, at, piece, 0, end - at);
        return piece;
    }

    private static void moveTo(int[] piece, int more) {
        for (int at = 0; at < piece.length; at += 5 + 256 * piece[at + 3] + piece[at + 4]) {
            piece[at + 1] += more;
        }
    }

    /** Film 1 is what make() makes of the pictures shown, with the STEP of their group's first. */
    private static House anewHouse(int between, int first, int low, int high) {
        House house = house(between);
        int step = house.coded(0, first, 2);
        house.unreel();
        for (int place = low; place <= high; place++) {
            house.reel(house.shown(0, place));
        }
        house.set(GROUP, 12);
        house.set(SIZE, 0);
        house.set(STEP, step);
        house.make(0);
        return house;
    }

    /** "byte for byte (but their places)"; "made anew, as one group (as 6 has it, with BETWEEN, REACH; ..". */
    private static void everyByte() {
        House steps = house(1);
        Check.due("21: a group's first has a STEP that is not the setting", steps.coded(0, 3, 2) > 4, true);
        Check.due("21: nor that of the second", steps.coded(0, 3, 2) != steps.coded(0, 4, 2), true);
        int[][] rows = {{0, 6}, {0, 1}, {1, 2}, {1, 5}, {2, 3}, {1, 6}, {0, 4}, {4, 6}, {5, 5}, {3, 5}};
        for (int between = 0; between <= 2; between++) {
            for (int[] row : rows) {
                int b = between;
                int[] want = filmDue(between, row[0], row[1]);
                int[] got = Check.bytesOf(() -> cutHouse(b, row[0], row[1]), 1);
                String name = "28: " + row[0] + " .. " + row[1] + " with BETWEEN " + between;
                Check.due(name + ": bytes", got.length, want.length);
                for (int i = 0; i < Math.min(got.length, want.length); i++) {
                    Check.due(name + ": byte " + i, got[i], want[i]);
                }
            }
        }
        // REACH counts: without it nothing of the moved pictures is found.
        House none = house(0);
        none.set(REACH, 0);
        none.row(0, 0, 1);
        int f = none.cut();
        Check.due("28: x with REACH 0", none.part(f, 1, 0, 1), 0);
        Check.due("28: y with REACH 0", none.part(f, 1, 0, 2), 0);
    }

    /** "-1 if it is empty". */
    private static void emptyList() {
        House house = house(0);
        Check.due("28: empty at first", house.cut(), -1);
        house.row(0, 0, 0);
        Check.due("28: one row", house.cut(), 1);
        Check.due("28: empty again", house.cut(), -1);
        Check.due("43: films", house.count(1), 2);
        Check.due("28: a new object", new House().cut(), -1);
    }

    /** "The LIST has at most 8 rows". */
    private static void fullList() {
        House house = house(0);
        for (int n = 1; n <= 8; n++) {
            Check.due("27: how many it has", house.row(0, n % 7, n % 7), n);
        }
        Check.badState("27: a ninth", () -> house.row(0, 0, 0));
        Check.due("28: eight rows", house.cut(), 1);
        Check.due("20: eight pictures", house.film(1, 4), 8);
        Check.due("27: again from the first on", house.row(1, 0, 7), 1);
    }

    /** "12 at most". */
    private static void twelvePictures() {
        int[][] ends = {{6, 3}, {6, 4}, {6, 5}, {6, 6}};
        for (int[] end : ends) {
            House house = house(0);
            house.row(0, 0, end[0]);
            house.row(0, 0, end[1]);
            int many = end[0] + end[1] + 2;
            Check.due("28: " + many + " pictures", house.cut(), many <= 12 ? 1 : -1);
            Check.due("43: the list is empty then", house.count(4), 0);
            Check.due("43: films", house.count(1), many <= 12 ? 2 : 1);
        }
        House house = house(0);
        for (int i = 0; i < 8; i++) {
            house.row(0, 0, i < 4 ? 1 : 0);
        }
        Check.due("28: eight rows of 12 pictures", house.film(house.cut(), 4), 12);
        for (int i = 0; i < 8; i++) {
            house.row(0, 0, i < 5 ? 1 : 0);
        }
        Check.due("28: eight rows of 13 pictures", house.cut(), -1);
        for (int i = 0; i < 8; i++) {
            house.row(0, 0, 6);
        }
        Check.due("28: 56 pictures", house.cut(), -1);
    }

    /** "the RATE of the first". */
    private static void ratesOfTheFirst() {
        House house = house(0);
        house.set(0, 1);
        house.set(SIZE, 0);
        house.make(0);
        house.set(0, 60);
        house.row(1, 0, 0);
        house.row(0, 0, 0);
        Check.due("28: the first row's", house.film(house.cut(), 3), 1);
        house.row(0, 0, 0);
        house.row(1, 0, 0);
        Check.due("28: the other one's", house.film(house.cut(), 3), 25);
    }

    /** "or they are of two sizes". */
    private static void twoSizes() {
        int[][] sizes = {{8, 8}, {16, 8}, {8, 16}, {24, 16}, {16, 24}};
        for (int[] one : sizes) {
            for (int[] other : sizes) {
                House house = new House();
                house.reel(house.blank(one[0], one[1], 1, 2, 3));
                house.make(0);
                house.unreel();
                house.reel(house.blank(other[0], other[1], 1, 2, 3));
                house.make(0);
                house.row(0, 0, 0);
                house.row(0, 0, 0);
                house.row(1, 0, 0);
                boolean same = one[0] == other[0] && one[1] == other[1];
                Check.due("28: " + one[0] + " by " + one[1] + ", " + other[0] + " by " + other[1], house.cut(), same ? 2 : -1);
                Check.due("43: the list is empty then", house.count(4), 0);
            }
        }
        House house = house(0);
        house.unreel();
        house.reel(house.blank(16, 8, 1, 2, 3));
        house.reel(house.blank(16, 8, 3, 2, 1));
        house.set(SIZE, 0);
        house.make(0);
        house.row(1, 0, 0);
        house.row(1, 1, 1);
        Check.due("28: a film behind one of another size", house.cut(), 2);
        Check.due("20: its width", house.film(2, 1), 16);
        house.row(1, 1, 1);
        house.row(0, 1, 1);
        Check.due("28: another size", house.cut(), -1);
    }

    /** An I of STEP 1, and a P whose picture needs so many bytes if it is made anew with that STEP. */
    private static House large(long seed) {
        House house = new House();
        house.blank(24, 24, 128, 128, 128);
        house.blank(24, 24, 128, 128, 128);
        for (int plane = 0; plane < 3; plane++) {
            house.noise(1, plane, seed + plane, 140);
        }
        house.reel(0);
        house.reel(1);
        house.set(STEP, 1);
        house.set(SIZE, 15000);
        house.set(FLOW, 10000);
        house.make(0);
        Check.due("21: STEP of the group's first", house.coded(0, 0, 2), 1);
        Check.due("21: STEP of the second", house.coded(0, 1, 2), 2);
        return house;
    }

    /** "or one would have more than 2000 bytes". */
    private static void twoThousandBytes() {
        House fits = large(23L);
        fits.row(0, 1, 1);
        Check.due("28: 2000 bytes", fits.cut(), 1);
        Check.due("21: 2000 bytes", fits.coded(1, 0, 3), 2000);
        House above = large(19L);
        above.row(0, 1, 1);
        Check.due("28: 2001 bytes", above.cut(), -1);
        Check.due("43: the list is empty then", above.count(4), 0);
        Check.due("43: no film came", above.count(1), 1);
        above.row(0, 0, 1);
        Check.due("28: as it is kept", above.cut(), 1);
        above.row(0, 0, 0);
        above.row(0, 1, 1);
        Check.due("28: 2001 bytes in the second row", above.cut(), -1);
        // It is really one byte more, as a buffer tells.
        above.unreel();
        above.reel(above.shown(0, 1));
        above.set(SIZE, 20000);
        above.set(FLOW, 6007);
        Check.due("17: 2001 bytes don't go through 16007 bits", above.coded(above.make(0), 0, 2), 2);
        above.set(FLOW, 6008);
        Check.due("17: but through 16008", above.make(0), -1);
    }

    /** "IllegalStateException: there are 8 films (here and below)": the list stays. */
    private static void eightFilms() {
        House house = house(0);
        for (int f = 1; f < 8; f++) {
            house.row(0, 0, 0);
            Check.due("28: film " + f, house.cut(), f);
        }
        Check.badState("28: a ninth, of an empty list", () -> house.cut());
        house.row(0, 0, 0);
        Check.badState("28: a ninth", () -> house.cut());
        Check.due("43: the list stays", house.count(4), 1);
        for (int i = 0; i < 7; i++) {
            house.row(0, 0, 6);
        }
        Check.badState("28: a ninth, of too many pictures", () -> house.cut());
    }

    /** "Whether the picture at a place of a film came by cut(), and was KEPT". */
    private static void keptOrNot() {
        House house = house(2);
        house.row(0, 0, 2);
        house.row(0, 4, 4);
        int cut = house.cut();
        boolean[] want = {true, true, true, false};
        for (int place = 0; place < 4; place++) {
            Check.due("29: place " + place, house.kept(cut, place), want[place]);
            Check.due("29: of a film that was made", house.kept(0, place), false);
        }
        house.bytes(cut);
        int read = house.read();
        for (int place = 0; place < 4; place++) {
            Check.due("29: of a film that was read", house.kept(read, place), false);
        }
        house.row(cut, 3, 3);
        house.row(cut, 1, 2);
        int again = house.cut();
        boolean[] then = {true, false, false};
        for (int place = 0; place < 3; place++) {
            Check.due("29: of a cut of a cut, place " + place, house.kept(again, place), then[place]);
        }
        house.forget();
        Check.due("17: in the room of the film that was made", house.make(2), 0);
        Check.due("17: in the room of the film that was cut", house.make(2), 1);
        for (int place = 0; place < 7; place++) {
            Check.due("29: nothing of the cut film is left", house.kept(1, place), false);
        }
    }

    /** Groups of one picture each, and a film of twelve. */
    private static void groupsOfOne() {
        int[] groups = {1, 2, 5, 12};
        for (int group : groups) {
            House house = new House();
            for (int i = 0; i < 12; i++) {
                house.reel(house.blank(8, 8, 10 * i, 1, 1));
            }
            house.set(GROUP, group);
            house.make(0);
            house.row(0, 0, 11);
            int all = house.cut();
            house.row(0, 3, 10);
            int some = house.cut();
            for (int place = 0; place < 12; place++) {
                Check.due("29: all, GROUP " + group, house.kept(all, place), true);
                int first = place / group * group;
                int last = Math.min(11, first + group - 1);
                if (place >= 3 && place <= 10) {
                    Check.due("29: some, GROUP " + group, house.kept(some, place - 3), first >= 3 && last <= 10);
                }
            }
            Check.due("20: as many bytes", house.film(all, 5), house.film(0, 5));
        }
    }

    /** A house that has read a film and made none. */
    private static void neverMade() {
        House house = new House();
        Check.Bits flat = Check.bits().code(0).empty(6);
        Check.film(house, Check.head(0, 8, 8, 7, 2), Check.picture(0, 0, 9, flat), Check.picture(1, 1, 4, Check.bits().code(0)));
        house.row(0, 1, 1);
        house.row(0, 0, 1);
        Check.due("28: its number", house.cut(), 1);
        boolean[] kept = {false, true, true};
        for (int place = 0; place < 3; place++) {
            Check.due("29: place " + place, house.kept(1, place), kept[place]);
        }
        Check.due("21: STEP of the group's first", house.coded(1, 0, 2), 9);
        Check.due("20: RATE", house.film(1, 3), 7);
    }

    /** "All films and players go, the list is empty: how many films there were"; all else stays. */
    private static void forgotten() {
        Check.due("30: of a new object", new House().forget(), 0);
        House house = house(0);
        Check.text(house, "x");
        house.filter();
        house.feed(5, 3);
        for (int y = 0; y < 4; y++) {
            house.play(y, 0, 4000, 0);
            house.tick(y);
        }
        house.row(0, 0, 0);
        Check.due("30: how many", house.forget(), 1);
        int[] left = {7, 0, 1, 7, 0, 3};
        for (int what = 0; what < 6; what++) {
            Check.due("43: " + what, house.count(what), left[what]);
        }
        for (int y = 0; y < 4; y++) {
            int at = y;
            Check.badState("38: no player is left", () -> house.tick(at));
            Check.badState("42: no player is left", () -> house.frame(at, 0, 0, 0));
        }
        Check.noSuch("20: no film is left", () -> house.film(0, 0));
        Check.due("30: none", house.forget(), 0);
        Check.due("28: the list is empty", house.cut(), -1);
        Check.due("14: settings stay", house.set(GROUP, 3), 3);
        Check.due("17: the reel stays", house.make(0), 0);
        Check.due("20: the reel stays", house.film(0, 4), 7);
        Check.badState("38: a player of the old film is none of the new one", () -> house.tick(0));
    }
}
