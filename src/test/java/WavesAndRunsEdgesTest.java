/** Terms 4 and 5: where the numbers of WAVES and the runs of RUNS end, and what is mended then. */
public final class WavesAndRunsEdgesTest {
    private static final int WAVES = 1;
    private static final int RUNS = 2;
    private static final String NO_CODE = "0".repeat(15);

    public static void main(String[] args) {
        zerosOfWaves();
        numbersOfWaves();
        wavesEnd();
        wavesTail();
        wavesMended();
        wavesHeld();
        wavesLifted();
        waysOfRuns();
        lengthsOfRuns();
        downOfRuns();
        runsEnd();
        runsTail();
        runsMended();
        runsOfP();
        Check.end("WavesAndRunsEdgesTest");
    }

    private static Check.Bits bits() {
        return Check.bits();
    }

    /** One I of 8 by 8: 64, 16 and 16 samples. */
    private static void judged(String what, int coding, Check.Bits one, int rule, int spot) {
        House house = new House();
        int f = Check.film(house, Check.head(coding, 8, 8, 25, 1), Check.picture(0, 0, 0, one));
        Check.due("21: rule: " + what, house.coded(f, 0, 6), rule);
        Check.due("21: spot: " + what, house.coded(f, 0, 7), spot);
        Check.due("20: with a spot: " + what, house.film(f, 7), rule == 0 ? 0 : 1);
    }

    /** Planes of zeros ahead of the plane that is told. */
    private static Check.Bits zeros(int planes) {
        Check.Bits all = bits();
        for (int plane = 0; plane < planes; plane++) {
            all.code(plane == 0 ? 64 : 16);
        }
        return all;
    }

    private static Check.Bits rest(Check.Bits all, int from) {
        for (int plane = from; plane < 3; plane++) {
            all.code(plane == 0 ? 64 : 16);
        }
        return all;
    }

    /** RULE "4 (more 0s than are left)". */
    private static void zerosOfWaves() {
        for (int plane = 0; plane < 3; plane++) {
            int all = plane == 0 ? 64 : 16;
            judged("all are 0", WAVES, rest(zeros(plane).code(all), plane + 1), 0, -1);
            judged("one more than are left", WAVES, zeros(plane).code(all + 1), 4, plane);
            judged("far more than are left", WAVES, zeros(plane).code(32766), 4, plane);
            judged("all but the last", WAVES, rest(zeros(plane).code(all - 1).signed(1), plane + 1), 0, -1);
            judged("all behind the first", WAVES, rest(zeros(plane).code(0).signed(1).code(all - 1), plane + 1), 0, -1);
            judged("one more behind the first", WAVES, zeros(plane).code(0).signed(1).code(all), 4, plane);
            judged("as many as are left need no number", WAVES, rest(zeros(plane).code(3).signed(2).code(all - 4), plane + 1), 0, -1);
        }
        Check.Bits full = bits();
        for (int i = 0; i < 96; i++) {
            full.code(0).signed(1);
        }
        judged("no 0 at all, and none is told behind the last", WAVES, full, 0, -1);
    }

    /** RULE 5: "not 0, at most 4095 in size". */
    private static void numbersOfWaves() {
        int[] values = {0, 1, -1, 4094, 4095, 4096, -4094, -4095, -4096, 16383, -16383};
        for (int v : values) {
            boolean fine = v != 0 && v >= -4095 && v <= 4095;
            for (int plane = 0; plane < 3; plane++) {
                int all = plane == 0 ? 64 : 16;
                Check.Bits one = rest(zeros(plane).code(0).signed(v).code(all - 1), plane + 1);
                judged("a number " + v + " in plane " + plane, WAVES, one, fine ? 0 : 5, fine ? -1 : plane);
            }
        }
    }

    /** RULES 1 and 7; the SPOT is the plane. */
    private static void wavesEnd() {
        judged("no bits", WAVES, bits(), 1, 0);
        for (int plane = 0; plane < 3; plane++) {
            int all = plane == 0 ? 64 : 16;
            judged("no code of how many are 0", WAVES, zeros(plane).raw(NO_CODE).raw("1".repeat(20)), 7, plane);
            judged("no code of a number", WAVES, zeros(plane).code(3).raw(NO_CODE).raw("1".repeat(20)), 7, plane);
            judged("a longest code is one", WAVES, zeros(plane).code(3).code(32766), 5, plane);
            judged("the bits end in a number", WAVES, zeros(plane).code(3).raw("0".repeat(5)), 1, plane);
            judged("the bits end in how many are 0", WAVES, zeros(plane).code(0).signed(1).raw("0".repeat(6)), 1, plane);
            judged("the bits end behind a number", WAVES, zeros(plane).code(all - 2).signed(300), 1, plane);
        }
        judged("the 15th zero is the last bit", WAVES, bits().code(0).raw(NO_CODE), 7, 0);
        judged("the 14th zero is the last bit", WAVES, bits().code(0).signed(2).code(0).signed(1).raw("0".repeat(14)), 1, 0);
    }

    /** RULE 6: "then less than eight bits, all 0"; its SPOT is 3, and nothing is mended. */
    private static void wavesTail() {
        // 13 + 9 + 9 bits: one is left.
        judged("one bit behind", WAVES, rest(bits(), 0), 0, -1);
        judged("one bit behind that is 1", WAVES, rest(bits(), 0).raw("1"), 6, 3);
        judged("nine bits behind", WAVES, rest(bits(), 0).raw("0".repeat(9)), 6, 3);
        for (int more = 0; more < 24; more++) {
            Check.Bits one = bits();
            for (int i = 0; i < more; i++) {
                one.code(0).signed(1);
            }
            one.code(64 - more).code(16).code(16);
            int used = one.length();
            int left = (8 - used % 8) % 8;
            judged(left + " bits behind", WAVES, one, 0, -1);
            House house = new House();
            int f = Check.film(house, Check.head(WAVES, 8, 8, 25, 1), Check.picture(0, 0, 0, one.raw("0".repeat(left + 8))));
            Check.due("21: eight more bits behind", house.coded(f, 0, 6), 6);
            Check.due("21: its spot", house.coded(f, 0, 7), 3);
            for (int plane = 0; plane < 3; plane++) {
                Check.due("24: nothing is mended", house.mended(f, 0, plane, 3, 3), false);
            }
        }
    }

    /** "that and those behind it are MENDED: 128". */
    private static void wavesMended() {
        for (int spot = 0; spot <= 3; spot++) {
            House house = new House();
            Check.Bits one = zeros(spot);
            if (spot < 3) {
                one.code(0).signed(0);
            }
            int f = Check.film(house, Check.head(WAVES, 8, 8, 25, 2), Check.picture(0, 0, 0, zeros(3)),
                Check.picture(0, 1, 0, one));
            for (int plane = 0; plane < 3; plane++) {
                int far = plane == 0 ? 7 : 3;
                Check.due("24: plane " + plane, house.mended(f, 1, plane, 0, 0), plane >= spot);
                Check.due("24: plane " + plane, house.mended(f, 1, plane, far, far), plane >= spot);
                Check.due("23: plane " + plane, house.look(f, 1, plane, far, far), plane >= spot ? 128 : 0);
                Check.due("23: plane " + plane, house.look(f, 1, plane, 0, 0), plane >= spot ? 128 : 0);
            }
        }
    }

    /** "what comes out is held to 0 .. 255". */
    private static void wavesHeld() {
        int[] values = {254, 255, 256, 4095, 1, -1, -4095};
        int[] want = {254, 255, 255, 255, 1, 0, 0};
        for (int i = 0; i < values.length; i++) {
            House house = new House();
            // A plane of 4 by 4 that is all the same has one number that isn't 0.
            int f = Check.film(house, Check.head(WAVES, 8, 8, 25, 1),
                Check.picture(0, 0, 0, bits().code(64).code(0).signed(values[i]).code(15).code(16)));
            Check.due("23: " + values[i] + " is held", house.look(f, 0, 1, 0, 0), want[i]);
            Check.due("23: " + values[i] + " is held", house.look(f, 0, 1, 3, 3), want[i]);
        }
    }

    private static int[] lifted(int[] x) {
        int n = x.length;
        int[] d = new int[n / 2];
        int[] all = new int[n];
        for (int k = 0; k < n / 2; k++) {
            int next = 2 * k + 2 == n ? x[n - 2] : x[2 * k + 2];
            d[k] = x[2 * k + 1] - Math.floorDiv(x[2 * k] + next, 2);
            all[n / 2 + k] = d[k];
        }
        for (int k = 0; k < n / 2; k++) {
            all[k] = x[2 * k] + Math.floorDiv((k == 0 ? d[0] : d[k - 1]) + d[k] + 2, 4);
        }
        return all;
    }

    private static void liftAll(int[][] plane, int wide, int high) {
        for (int y = 0; y < high; y++) {
            int[] row = new int[wide];
            System.arraycopy(plane[y], 0, row, 0, wide);
            System.arraycopy(lifted(row), 0, plane[y], 0, wide);
        }
        for (int x = 0; x < wide; x++) {
            int[] column = new int[high];
            for (int y = 0; y < high; y++) {
                column[y] = plane[y][x];
            }
            column = lifted(column);
            for (int y = 0; y < high; y++) {
                plane[y][x] = column[y];
            }
        }
    }

    /** "x(n) being x(n - 2)", "d(-1) being d(0) (both rounded down)", "(the numbers of 0s as long as can be)". */
    private static void wavesLifted() {
        int[][] sizes = {{8, 8}, {16, 8}, {8, 16}, {24, 8}, {8, 24}};
        for (int[] size : sizes) {
            Check.Bits want = bits();
            for (int plane = 0; plane < 3; plane++) {
                int wide = plane == 0 ? size[0] : size[0] / 2;
                int high = plane == 0 ? size[1] : size[1] / 2;
                int[][] all = new int[high][wide];
                House one = loud(size);
                for (int i = 0; i < wide * high; i++) {
                    all[i / wide][i % wide] = one.sample(0, plane, i % wide, i / wide);
                }
                liftAll(all, wide, high);
                liftAll(all, wide / 2, high / 2);
                int passed = 0;
                for (int i = 0; i < wide * high; i++) {
                    int v = all[i / wide][i % wide];
                    passed++;
                    if (v != 0) {
                        want.code(passed - 1).signed(v);
                        passed = 0;
                    }
                }
                if (passed > 0) {
                    want.code(passed);
                }
            }
            int[] due = want.bytes();
            House house = loud(size);
            house.reel(0);
            int f = house.make(WAVES);
            Check.due("17: bytes of WAVES", house.bytes(f), 12 + due.length);
            for (int i = 0; i < due.length; i++) {
                Check.due("17: byte " + i + " of WAVES", house.tape(12 + i), due[i]);
            }
        }
    }

    private static House loud(int[] size) {
        House house = new House();
        house.blank(size[0], size[1], 128, 10, 0);
        house.noise(0, 0, 77L, 255);
        house.noise(0, 1, 78L, 3);
        house.fill(0, 0, 2, 2, 5, 4, 0);
        return house;
    }

    private static Check.Bits filled(int planes) {
        Check.Bits all = bits();
        for (int plane = 0; plane < planes; plane++) {
            all.code(0).code(plane == 0 ? 63 : 15).eight(70 + plane);
        }
        return all;
    }

    /** RULE "2 (also SAME of an I; ahead of the LENGTH's code)". */
    private static void waysOfRuns() {
        judged("FILL", RUNS, filled(3), 0, -1);
        judged("SAME of an I", RUNS, bits().code(1).code(0), 2, 0);
        judged("SAME of an I ahead of the length", RUNS, bits().code(1).raw(NO_CODE), 2, 0);
        judged("DOWN", RUNS, bits().code(0).code(7).eight(1).code(2).code(55).code(0).code(15).eight(1).code(0).code(15).eight(1), 0, -1);
        Check.Bits told = bits().code(3).code(63);
        for (int i = 0; i < 64; i++) {
            told.eight(i);
        }
        judged("TOLD", RUNS, told.code(0).code(15).eight(1).code(0).code(15).eight(1), 0, -1);
        judged("no such way", RUNS, bits().code(4).code(0), 2, 0);
        judged("no such way ahead of the length", RUNS, bits().code(4).raw(NO_CODE), 2, 0);
        judged("far beyond", RUNS, bits().code(32766), 2, 0);
        judged("no such way in plane 2", RUNS, filled(2).code(4), 2, 80);
        judged("SAME of an I in plane 1", RUNS, filled(1).code(0).code(2).eight(3).code(1), 2, 67);
    }

    /** RULE "4 (a length beyond the plane .. ahead of samples' bits: none of it is there)". */
    private static void lengthsOfRuns() {
        int[] base = {0, 64, 80};
        for (int plane = 0; plane < 3; plane++) {
            int all = plane == 0 ? 64 : 16;
            judged("one more than the plane has", RUNS, filled(plane).code(0).code(all).eight(1), 4, base[plane]);
            judged("one more, ahead of the bits", RUNS, filled(plane).code(0).code(all), 4, base[plane]);
            judged("one more TOLD, ahead of the bits", RUNS, filled(plane).code(3).code(all), 4, base[plane]);
            judged("far more", RUNS, filled(plane).code(0).code(32766), 4, base[plane]);
            judged("one more than is left", RUNS, filled(plane).code(0).code(9).eight(1).code(0).code(all - 10), 4, base[plane] + 10);
            judged("one more than is left DOWN", RUNS, filled(plane).code(0).code(9).eight(1).code(2).code(all - 10), 4, base[plane] + 10);
            Check.Bits fits = filled(plane).code(0).code(9).eight(1).code(0).code(all - 11).eight(2);
            for (int later = plane + 1; later < 3; later++) {
                fits.code(0).code(15).eight(3);
            }
            judged("as many as are left", RUNS, fits, 0, -1);
        }
        Check.Bits single = bits();
        for (int i = 0; i < 96; i++) {
            single.code(0).code(0).eight(i);
        }
        judged("runs of one sample", RUNS, single, 0, -1);
    }

    /** "DOWN in the first row: the first sample counts". */
    private static void downOfRuns() {
        judged("DOWN at once", RUNS, bits().code(2).code(0), 4, 0);
        judged("DOWN at the end of the first row", RUNS, bits().code(0).code(6).eight(1).code(2).code(0), 4, 7);
        judged("DOWN from the end of the first row on", RUNS, bits().code(0).code(6).eight(1).code(2).code(56), 4, 7);
        judged("DOWN right behind the first row", RUNS, bits().code(0).code(7).eight(1).code(2).code(55).raw("0".repeat(15)), 7, 64);
        judged("DOWN in plane 1 at once", RUNS, filled(1).code(2).code(0), 4, 64);
        judged("DOWN in plane 1 at the end of its first row", RUNS, filled(1).code(0).code(2).eight(1).code(2).code(0), 4, 67);
        judged("DOWN in plane 1 behind its first row", RUNS, filled(1).code(0).code(3).eight(1).code(2).code(11).raw(NO_CODE), 7, 80);
        judged("DOWN in plane 2 at the end of its first row", RUNS, filled(2).code(0).code(2).eight(1).code(2).code(0), 4, 83);
        judged("DOWN in the first row behind its length's code", RUNS, bits().code(2).raw(NO_CODE), 7, 0);
        judged("DOWN in the first row whose length's code ends", RUNS, bits().code(2).raw("0".repeat(5)), 1, 0);
    }

    /** RULES 1 and 7: "of a FILL without its bits none, of a TOLD those that were read". */
    private static void runsEnd() {
        judged("no bits", RUNS, bits(), 1, 0);
        judged("no code of a way", RUNS, bits().raw(NO_CODE).raw("1"), 7, 0);
        judged("no code of a length", RUNS, bits().code(0).raw(NO_CODE).raw("1"), 7, 0);
        judged("the 15th zero is the last bit", RUNS, bits().code(0).raw(NO_CODE), 7, 0);
        judged("the bits end in a way", RUNS, bits().raw("0".repeat(8)), 1, 0);
        judged("the bits end in a length", RUNS, bits().code(0).raw("0".repeat(7)), 1, 0);
        judged("a FILL without bits", RUNS, bits().code(0).code(62), 1, 0);
        // Codes of a run fill an even number of bits, so that it is two bits that are lacking.
        judged("a FILL of three that lacks two bits", RUNS, bits().code(0).code(4).eight(9).code(0).code(2).raw("111111"), 1, 5);
        judged("all planes but two bits", RUNS, filled(2).code(0).code(15).raw("111111"), 1, 80);
        judged("what is left of the bits is no run", RUNS, bits().code(0).code(7).eight(1).code(0).code(0).code(2).code(0), 1, 8);
        judged("a TOLD without bits", RUNS, bits().code(3).code(0).raw("00"), 1, 0);
        for (int read = 0; read <= 4; read++) {
            Check.Bits told = bits().code(3).code(4);
            for (int i = 0; i < read; i++) {
                told.eight(200 + i);
            }
            judged("a TOLD of which " + read + " were read", RUNS, told, 1, read);
        }
        judged("behind a plane", RUNS, filled(1), 1, 64);
        judged("behind two planes", RUNS, filled(2), 1, 80);
    }

    /** RULE 6: the SPOT is how many samples are there, which are all. */
    private static void runsTail() {
        // 1 + 13 + 8, 1 + 9 + 8, 1 + 9 + 8 bits are 58: six are left.
        Check.due("58 bits", filled(3).length(), 58);
        judged("six bits behind", RUNS, filled(3).raw("000000"), 0, -1);
        for (int i = 0; i < 6; i++) {
            judged("a 1 behind", RUNS, filled(3).raw("0".repeat(i) + "1" + "0".repeat(5 - i)), 6, 96);
        }
        judged("14 bits behind", RUNS, filled(3).raw("0".repeat(14)), 6, 96);
        Check.Bits even = bits().code(0).code(0).eight(1).code(0).code(0).eight(2).code(0).code(0).eight(3).code(0).code(60).eight(4)
            .code(0).code(15).eight(5).code(0).code(15).eight(6);
        Check.due("86 bits", even.length(), 86);
        judged("two bits behind", RUNS, even.raw("00"), 0, -1);
        judged("eight bits behind", RUNS, even.raw("00000000"), 6, 96);
        House house = new House();
        int f = Check.film(house, Check.head(RUNS, 8, 8, 25, 1), Check.picture(0, 0, 0, filled(3).raw("0".repeat(14))));
        Check.due("24: nothing is mended", house.mended(f, 0, 2, 3, 3), false);
        Check.due("23: nothing is mended", house.look(f, 0, 2, 3, 3), 72);
    }

    /** "these stay, the others are MENDED": on both sides of each spot. */
    private static void runsMended() {
        int[] spots = {0, 1, 7, 8, 63, 64, 65, 79, 80, 81, 95};
        for (int spot : spots) {
            House house = new House();
            Check.Bits one = bits();
            int left = spot;
            for (int plane = 0; plane < 3 && left > 0; plane++) {
                int many = Math.min(left, plane == 0 ? 64 : 16);
                one.code(0).code(many - 1).eight(200);
                left -= many;
            }
            int f = Check.film(house, Check.head(RUNS, 8, 8, 25, 1), Check.picture(0, 0, 0, one.code(4)));
            Check.due("21: spot", house.coded(f, 0, 7), spot);
            for (int i = 0; i < 96; i++) {
                int plane = i < 64 ? 0 : i < 80 ? 1 : 2;
                int wide = plane == 0 ? 8 : 4;
                int at = i - (plane == 0 ? 0 : plane == 1 ? 64 : 80);
                Check.due("24: sample " + i + ", spot " + spot, house.mended(f, 0, plane, at % wide, at / wide), i >= spot);
                Check.due("23: sample " + i + ", spot " + spot, house.look(f, 0, plane, at % wide, at / wide), i < spot ? 200 : 128);
            }
        }
    }

    /** "SAME .. as in the latest anchor (of P alone)"; "as in the latest anchor (of an I: 128)". */
    private static void runsOfP() {
        House house = new House();
        Check.Bits same = bits().code(1).code(63).code(1).code(15).code(1).code(15);
        Check.Bits changed = bits().code(1).code(62).code(0).code(0).eight(9);
        int f = Check.film(house, Check.head(RUNS, 8, 8, 25, 5), Check.picture(0, 0, 0, filled(3)),
            Check.picture(1, 1, 0, same), Check.picture(1, 2, 0, changed), Check.picture(1, 3, 0, same),
            Check.picture(0, 4, 0, bits().code(0).code(63).eight(5)));
        int[] first = {70, 70, 70, 70, 5};
        int[] last = {70, 70, 9, 9, 5};
        int[] other = {72, 72, 72, 72, 128};
        int[] rule = {0, 0, 1, 0, 1};
        int[] spot = {-1, -1, 64, -1, 64};
        for (int place = 0; place < 5; place++) {
            Check.due("21: rule at " + place, house.coded(f, place, 6), rule[place]);
            Check.due("21: spot at " + place, house.coded(f, place, 7), spot[place]);
            Check.due("23: the first sample at " + place, house.look(f, place, 0, 0, 0), first[place]);
            Check.due("23: the last one of plane 0 at " + place, house.look(f, place, 0, 7, 7), last[place]);
            Check.due("23: plane 2 at " + place, house.look(f, place, 2, 3, 3), other[place]);
            Check.due("24: plane 2 at " + place, house.mended(f, place, 2, 3, 3), rule[place] == 1);
        }
        House longer = new House();
        int g = Check.film(longer, Check.head(RUNS, 8, 8, 25, 2), Check.picture(0, 0, 0, filled(3)),
            Check.picture(1, 1, 0, bits().code(1).code(64)));
        Check.due("21: SAME of one more than the plane has", longer.coded(g, 1, 6), 4);
        Check.due("21: none of it is there", longer.coded(g, 1, 7), 0);
    }
}
