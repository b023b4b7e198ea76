/** Promises 14 to 17 and 19: settings, the reel, films that are made. */
public final class MakingTest {
    public static void main(String[] args) {
        settings();
        reel();
        makeBadly();
        kinds();
        flatBlocks();
        vectors();
        backward();
        plan();
        sized();
        tooLarge();
        waves();
        runs();
        backAndForth();
        Check.end("MakingTest");
    }

    private static void settings() {
        House house = new House();
        int[] least = {1, 1, 0, 0, 1, 100, 50, 0};
        int[] most = {60, 12, 2, 8, 31, 20000, 10000, 1};
        for (int what = 0; what < 8; what++) {
            int setting = what;
            house.set(what, least[what]);
            Check.due("14: what it was", house.set(what, most[what]), least[what]);
            Check.badArgument("14: below", () -> house.set(setting, least[setting] - 1));
            Check.badArgument("14: above", () -> house.set(setting, most[setting] + 1));
            Check.due("14: nothing was changed", house.set(what, most[what]), most[what]);
        }
        Check.due("14: SIZE may be 0", house.set(5, 0), 20000);
        Check.due("14: SIZE was 0", house.set(5, 100), 0);
        Check.badArgument("14: SIZE of 1", () -> house.set(5, 1));
        Check.badArgument("14: FLOW of 0", () -> house.set(6, 0));
        Check.badArgument("14: no such setting", () -> house.set(8, 1));
        Check.badArgument("14: no such setting", () -> house.set(-1, 1));
    }

    private static void reel() {
        House house = new House();
        house.blank(8, 16, 10, 20, 30);
        house.blank(16, 8, 1, 2, 3);
        Check.due("15: how many", house.reel(0), 1);
        house.fill(0, 0, 0, 0, 8, 16, 90);
        Check.due("15: how many", house.reel(0), 2);
        house.drop(2);
        house.make(2);
        Check.due("15: as it was then", house.look(0, 0, 0, 5, 5), 10);
        Check.due("15: as it was then", house.look(0, 1, 0, 5, 5), 90);
        Check.noSuch("15: picture", () -> house.reel(2));
        Check.noSuch("15: picture below 0", () -> house.reel(-1));
        Check.badArgument("15: another size", () -> house.reel(1));
        for (int i = 3; i <= 12; i++) {
            Check.due("15: how many", house.reel(0), i);
        }
        Check.badState("15: a 13th", () -> house.reel(0));
        Check.badArgument("15: the size is looked at first", () -> house.reel(1));
        Check.due("16: how many", house.unreel(), 12);
        Check.due("16: none", house.unreel(), 0);
        Check.due("15: any size again", house.reel(1), 1);
        Check.due("43: of the reel", house.count(3), 1);
    }

    private static void makeBadly() {
        House house = new House();
        house.blank(8, 8, 10, 20, 30);
        Check.badArgument("17: an empty reel", () -> house.make(0));
        house.reel(0);
        Check.badArgument("17: no such coding", () -> house.make(3));
        Check.badArgument("17: no such coding", () -> house.make(-1));
        for (int f = 0; f < 8; f++) {
            Check.due("17: its number", house.make(f % 3), f);
        }
        Check.badState("17: a ninth", () -> house.make(0));
        Check.badArgument("17: the coding is looked at first", () -> house.make(3));
        Check.due("17: the reel stays", house.count(3), 1);
    }

    private static House reelOf(int many) {
        House house = new House();
        house.blank(8, 8, 100, 120, 130);
        house.noise(0, 0, 3L, 60);
        house.reel(0);
        for (int i = 1; i < many; i++) {
            house.shift(i - 1, 1, 0);
            house.reel(i);
        }
        return house;
    }

    private static void ordersAre(House house, int f, String want) {
        StringBuilder got = new StringBuilder();
        for (int k = 0; k < house.film(f, 4); k++) {
            got.append("IPB".charAt(house.coded(f, k, 0))).append(house.coded(f, k, 1)).append(' ');
        }
        Check.due("17: " + got + " for " + want, got.toString().trim().equals(want), true);
    }

    private static void kinds() {
        House house = reelOf(11);
        house.set(1, 6);
        ordersAre(house, house.make(0), "I0 P1 P2 P3 P4 P5 I6 P7 P8 P9 P10");
        house.set(2, 1);
        ordersAre(house, house.make(0), "I0 P2 B1 P4 B3 P5 I6 P8 B7 P10 B9");
        house.set(2, 2);
        ordersAre(house, house.make(0), "I0 P3 B1 B2 P5 B4 I6 P9 B7 B8 P10");
        house.set(1, 1);
        ordersAre(house, house.make(0), "I0 I1 I2 I3 I4 I5 I6 I7 I8 I9 I10");
        house.set(1, 5);
        house.set(7, 1);
        ordersAre(house, house.make(1), "I0 I1 I2 I3 I4 I5 I6 I7 I8 I9 I10");
        ordersAre(house, house.make(2), "I0 P1 P2 P3 P4 I5 P6 P7 P8 P9 I10");
        Check.due("20: groups", house.film(2, 6), 2);
        Check.due("20: groups", house.film(4, 6), 11);
        Check.due("20: groups", house.film(5, 6), 3);
        Check.due("20: the rate", house.film(5, 3), 25);
        house.set(0, 60);
        Check.due("20: the rate", house.film(house.make(2), 3), 60);
    }

    private static void flatBlocks() {
        House house = new House();
        house.blank(8, 8, 128, 128, 136);
        house.reel(0);
        house.reel(0);
        house.set(4, 8);
        int f = house.make(0);
        // 16 * 8 / 8 at the first place of the last block, the other blocks empty.
        Check.due("17: levels", house.part(f, 0, 0, 5), 1);
        Check.due("17: bits", house.part(f, 0, 0, 6), 1 + 5 + 3 + 1 + 11);
        Check.due("17: the least way of several", house.part(f, 0, 0, 0), 0);
        Check.due("17: SKIPPED", house.part(f, 1, 0, 0), 0);
        Check.due("17: bytes", house.film(f, 5), 7 + 5 + 3 + 5 + 1);
        Check.due("17: as it is read", house.look(f, 1, 2, 0, 0), 136);
        house.bytes(f);
        int[] want = {77, 70, 0, 1, 1, 25, 2, 0, 0, 8, 0, 3};
        for (int i = 0; i < want.length; i++) {
            Check.due("17: byte " + i, house.tape(i), want[i]);
        }
    }

    private static void vectors() {
        House house = new House();
        house.blank(16, 16, 128, 128, 128);
        house.noise(0, 0, 11L, 90);
        house.reel(0);
        house.shift(0, 2, -1);
        house.reel(1);
        house.set(4, 1);
        house.set(3, 4);
        int f = house.make(0);
        // Away from the left side what was 2 to the left and 1 below is 4 and -2 halves away.
        Check.due("17: FORWARD, then SKIPPED with the same vector", house.part(f, 1, 1, 0), 0);
        Check.due("17: x", house.part(f, 1, 1, 1), -4);
        Check.due("17: y", house.part(f, 1, 1, 2), 2);
        for (int m = 2; m < 4; m++) {
            Check.due("17: y of the lower row", house.part(f, 1, m, 2), 2);
        }
        house.set(3, 3);
        int g = house.make(0);
        Check.due("17: x within the reach", house.part(g, 1, 1, 1) >= -3, true);
        house.set(3, 0);
        int h = house.make(0);
        for (int m = 0; m < 4; m++) {
            Check.due("17: no reach", house.part(h, 1, m, 1), 0);
            Check.due("17: no reach", house.part(h, 1, m, 2), 0);
        }
    }

    /** What comes between is like the later one, and moved. */
    private static void backward() {
        House house = new House();
        house.blank(24, 24, 128, 128, 128);
        house.blank(24, 24, 128, 128, 128);
        house.noise(0, 0, 11L, 90);
        house.noise(1, 0, 12L, 90);
        house.shift(1, 1, -2);
        house.reel(0);
        house.reel(2);
        house.reel(1);
        house.set(2, 1);
        house.set(3, 4);
        house.set(4, 1);
        int f = house.make(0);
        int[] inner = {1, 2, 4, 5};
        for (int m : inner) {
            Check.due("17: BACKWARD", house.part(f, 2, m, 0), 2);
            Check.due("17: no forward x", house.part(f, 2, m, 1), 0);
            Check.due("17: no forward y", house.part(f, 2, m, 2), 0);
            Check.due("17: x", house.part(f, 2, m, 3), -2);
            Check.due("17: y", house.part(f, 2, m, 4), 4);
        }
        Check.due("17: as it was", house.look(f, 1, 0, 12, 12), house.sample(2, 0, 12, 12));
    }

    private static int bytesOfGroup(House from, int[] places, int between) {
        House house = reelOf(8);
        scenes(house);
        house.unreel();
        for (int place : places) {
            house.reel(place);
        }
        house.set(1, 12);
        house.set(2, between);
        return house.film(house.make(0), 5) - 7;
    }

    private static void scenes(House house) {
        house.fill(2, 0, 0, 0, 8, 8, 9);
        house.fill(3, 0, 0, 0, 8, 4, 9);
        house.noise(5, 0, 99L, 100);
        house.unreel();
        for (int p = 0; p < 8; p++) {
            house.reel(p);
        }
    }

    /** All ways of groups are tried here one by one. */
    private static void plan() {
        for (int between = 0; between <= 2; between++) {
            House house = reelOf(8);
            scenes(house);
            int[][] need = new int[8][5];
            for (int from = 0; from < 8; from++) {
                for (int n = 1; n <= 4 && from + n <= 8; n++) {
                    int[] places = new int[n];
                    for (int i = 0; i < n; i++) {
                        places[i] = from + i;
                    }
                    need[from][n] = bytesOfGroup(house, places, between);
                }
            }
            int[] best = new int[9];
            int[] first = new int[8];
            for (int from = 7; from >= 0; from--) {
                best[from] = Integer.MAX_VALUE;
                for (int n = 1; n <= 4 && from + n <= 8; n++) {
                    if (need[from][n] + best[from + n] < best[from]) {
                        best[from] = need[from][n] + best[from + n];
                        first[from] = n;
                    }
                }
            }
            house.set(7, 1);
            house.set(2, between);
            int f = house.make(0);
            Check.due("17: the fewest bytes", house.film(f, 5), 7 + best[0]);
            boolean[] begins = new boolean[8];
            for (int place = 0; place < 8; place += first[place]) {
                begins[place] = true;
            }
            for (int k = 0; k < 8; k++) {
                Check.due("17: a group at " + k, house.coded(f, k, 5) == 1, begins[house.coded(f, k, 1)] && house.coded(f, k, 0) == 0);
            }
        }
        House flat = new House();
        flat.blank(8, 8, 128, 128, 128);
        flat.reel(0);
        flat.reel(0);
        flat.reel(0);
        flat.set(7, 1);
        // An empty I and a SKIPPED P both have one byte: the shortest groups of several ways.
        ordersAre(flat, flat.make(0), "I0 I1 I2");
    }

    private static void sized() {
        House house = reelOf(4);
        int free = house.make(0);
        int[] size = {900, 1500};
        int[] flow = {120, 700};
        for (int i = 0; i < 2; i++) {
            house.set(5, size[i]);
            house.set(6, flow[i]);
            int f = house.make(0);
            Check.due("17: it is made", f > free, true);
            int step = house.coded(f, 0, 2);
            Check.due("17: STEP or more", step >= 4, true);
            for (int k = 0; k < 4; k++) {
                Check.due("17: there are as many", house.buffer(f, k, size[i], flow[i]) >= 0, true);
            }
            // With one STEP less the first picture would not have gone through.
            if (step > 4) {
                house.set(5, 0);
                house.set(4, step - 1);
                int g = house.make(0);
                int have = Math.min(size[i], size[i] / 2 + flow[i]);
                Check.due("17: the least one", 8 * house.coded(g, 0, 3) > have, true);
                house.set(4, 4);
            }
        }
        int bits = 8 * house.coded(free, 0, 3);
        house.unreel();
        house.reel(0);
        house.set(5, bits);
        house.set(6, bits - bits / 2);
        Check.due("17: just as many", house.coded(house.make(0), 0, 2), 4);
        house.set(6, bits - bits / 2 - 1);
        Check.due("17: one less", house.coded(house.make(0), 0, 2) > 4, true);
        house.forget();
        house.set(5, 0);
        house.set(4, 31);
        int least = 8 * house.coded(house.make(0), 0, 3);
        house.set(5, least);
        house.set(6, least - least / 2 - 1);
        Check.due("17: one bit is lacking", house.make(0), -1);
        house.set(6, least - least / 2);
        Check.due("17: none is lacking", house.make(0) >= 0, true);
        house.set(5, 100);
        house.set(6, 50);
        int before = house.count(1);
        Check.due("17: without one it is not made", house.make(0), -1);
        Check.due("17: nor counted", house.count(1), before);
        Check.due("17: of BLOCKS alone", house.make(2), before);
    }

    private static House loud() {
        House house = new House();
        house.blank(24, 24, 128, 128, 128);
        for (int plane = 0; plane < 3; plane++) {
            house.noise(0, plane, 5L + plane, 255);
        }
        house.reel(0);
        return house;
    }

    private static void tooLarge() {
        House house = loud();
        house.set(4, 1);
        Check.due("17: more than 2000 bytes", house.make(0), -1);
        house.set(7, 1);
        Check.due("17: more than 2000 bytes by a plan", house.make(0), -1);
        house.set(5, 20000);
        house.set(6, 10000);
        Check.due("17: more than 2000 bytes in a buffer with room", house.make(0), -1);
        house.set(5, 14000);
        Check.due("17: a larger STEP", house.make(0), 0);
        Check.due("17: a larger STEP", house.coded(0, 0, 2) > 1, true);
        house.set(5, 0);
        house.set(4, 4);
        house.reel(0);
        house.reel(0);
        house.set(1, 1);
        house.set(7, 0);
        int f = house.make(0);
        Check.due("19: more than 4000 bytes", house.film(f, 5) > 4000, true);
        house.feed(5, 1);
        Check.due("19: nothing is done", house.bytes(f), -1);
        Check.due("19: nothing is done", house.tape(0), 5);
        Check.due("19: nothing is done", house.count(5), 1);
        Check.due("19: another", house.bytes(0), house.film(0, 5));
        House full = new House();
        full.blank(24, 24, 128, 128, 128);
        for (int plane = 0; plane < 3; plane++) {
            full.noise(0, plane, 38L + plane, 150);
        }
        full.reel(0);
        full.set(4, 1);
        Check.due("17: 2000 bytes", full.make(0), 0);
        Check.due("17: 2000 bytes", full.coded(0, 0, 3), 2000);
        full.row(0, 0, 0);
        Check.due("28: 2000 bytes", full.cut(), 1);
        full.reel(0);
        full.unreel();
        full.reel(full.shown(0, 0));
        full.reel(0);
        int two = full.make(0);
        full.row(two, 0, 0);
        Check.due("28: 2000 bytes made anew", full.cut(), 3);
    }

    private static void waves() {
        House house = new House();
        house.blank(8, 8, 40, 7, 0);
        house.reel(0);
        int f = house.make(1);
        int[] want = Check.bits().code(0).signed(40).code(0).signed(40).code(6).signed(40).code(0).signed(40)
            .code(54).code(0).signed(7).code(15).code(16).bytes();
        Check.due("17: bytes", house.bytes(f), 12 + want.length);
        for (int i = 0; i < want.length; i++) {
            Check.due("17: WAVES byte " + i, house.tape(12 + i), want[i]);
        }
    }

    private static void runs() {
        House house = new House();
        house.blank(8, 8, 40, 7, 0);
        house.put(0, 0, 3, 1, 99);
        house.reel(0);
        house.put(0, 0, 0, 0, 50);
        house.put(0, 1, 3, 3, 8);
        house.reel(0);
        int f = house.make(2);
        // Behind the 99: a FILL (1 + 11 + 8) is longer than DOWN up to below the 99 would be.
        int[] first = Check.bits().code(0).code(10).eight(40).code(0).code(0).eight(99)
            .code(0).code(51).eight(40).code(0).code(15).eight(7).code(0).code(15).eight(0).bytes();
        int[] second = Check.bits().code(0).code(0).eight(50).code(1).code(62)
            .code(1).code(14).code(0).code(0).eight(8).code(1).code(15).bytes();
        house.bytes(f);
        Check.due("17: bytes", house.film(f, 5), 17 + first.length + second.length);
        for (int i = 0; i < first.length; i++) {
            Check.due("17: RUNS byte " + i, house.tape(12 + i), first[i]);
        }
        for (int i = 0; i < second.length; i++) {
            Check.due("17: RUNS of P byte " + i, house.tape(17 + first.length + i), second[i]);
        }
        for (int place = 0; place < 2; place++) {
            Check.due("17: as it was", house.look(f, place, 0, 3, 1), 99);
        }
        House flat = new House();
        flat.blank(8, 8, 0, 0, 0);
        for (int y = 0; y < 8; y++) {
            for (int x = 0; x < 8; x++) {
                flat.put(0, 0, x, y, 30 * x);
            }
        }
        flat.reel(0);
        int g = flat.make(2);
        flat.bytes(g);
        // A TOLD of 8 has as many bits as a FILL of 1 and a TOLD of 7: the least way first.
        Check.Bits down = Check.bits().code(0).code(0).eight(0).code(3).code(6);
        for (int x = 1; x < 8; x++) {
            down.eight(30 * x);
        }
        int[] told = down.code(2).code(55).code(0).code(15).eight(0).code(0).code(15).eight(0).bytes();
        for (int i = 0; i < told.length; i++) {
            Check.due("17: RUNS with DOWN byte " + i, flat.tape(12 + i), told[i]);
        }
    }

    /** WAVES and RUNS come out as they went in, and every film reads as it was made. */
    private static void backAndForth() {
        int[][] sizes = {{8, 8}, {24, 8}, {16, 24}, {24, 24}};
        for (int[] size : sizes) {
            House house = new House();
            house.blank(size[0], size[1], 100, 50, 200);
            house.noise(0, 0, 7L, 30);
            house.noise(0, 1, 8L, 3);
            house.fill(0, 0, 2, 3, 9, 4, 255);
            house.shift(0, 3, 1);
            house.fill(1, 2, 1, 1, 2, 2, 0);
            house.reel(0);
            house.reel(1);
            for (int coding = 0; coding < 3; coding++) {
                int f = house.make(coding);
                Check.due("17: no spot", house.film(f, 7), 0);
                house.bytes(f);
                int g = house.read();
                for (int place = 0; place < 2; place++) {
                    int p = house.shown(f, place);
                    int q = house.shown(g, place);
                    Check.due("18: reads as it was made", house.distance(p, q, 2), 0);
                    if (coding > 0) {
                        Check.due("17: nothing is lost", house.distance(p, place, 2), 0);
                    }
                }
            }
        }
    }
}
