/** Term 1 and promises 2 to 13: the lines that pictures and the tape have. */
public final class PictureEdgesTest {
    private static final int FAR = Integer.MAX_VALUE;
    private static final int DEEP = Integer.MIN_VALUE;

    public static void main(String[] args) {
        sixtyPictures();
        dropped();
        filledArea();
        filledFarAway();
        noiseHeld();
        noiseWraps();
        noiseOfNothing();
        shiftedBySome();
        shiftedFar();
        leastAndMostSamples();
        tapeIsFull();
        bytesOfEight();
        lowestEightBits();
        emptyTape();
        Check.end("PictureEdgesTest");
    }

    /** "They have the numbers 0, 1, .., at most 60"; "there are 60 (here and below)". */
    private static void sixtyPictures() {
        House house = new House();
        for (int p = 0; p < 60; p++) {
            Check.due("2: its number", house.blank(8, 8, p, 0, 0), p);
        }
        Check.badState("2: a 61st", () -> house.blank(8, 8, 0, 0, 0));
        Check.badState("5: a 61st", () -> house.shift(0, 0, 0));
        Check.due("43: pictures", house.count(0), 60);
        Check.due("7: the 60th", house.sample(59, 0, 0, 0), 59);
        Check.noSuch("7: no 61st", () -> house.sample(60, 0, 0, 0));
        Check.due("9: one goes", house.drop(59), 59);
        Check.due("5: room for one", house.shift(3, 0, 0), 59);
        Check.badState("5: and no other", () -> house.shift(3, 0, 0));
        Check.due("7: its samples", house.sample(59, 0, 7, 7), 3);
    }

    /** "Pictures from number n on go: how many are left". */
    private static void dropped() {
        int[] numbers = {0, 1, 4, 5, 6, 60, FAR};
        for (int n : numbers) {
            House house = new House();
            for (int p = 0; p < 5; p++) {
                house.blank(8, 8, p, 0, 0);
            }
            int left = Math.min(n, 5);
            Check.due("9: drop(" + n + ")", house.drop(n), left);
            Check.due("43: pictures", house.count(0), left);
            Check.noSuch("9: gone", () -> house.size(left, 0));
            Check.due("2: the next number", house.blank(8, 8, 0, 0, 0), left);
        }
        Check.due("9: of none", new House().drop(0), 0);
        Check.due("9: of none", new House().drop(1), 0);
    }

    private static int within(int from, int length, int size) {
        return Math.max(0, Math.min(from + length, size) - Math.max(from, 0));
    }

    /** "All samples from x, y on, w by h, that are in the plane become v: how many those are". */
    private static void filledArea() {
        int[] starts = {-9, -8, -2, -1, 0, 1, 3, 7, 8, 9};
        int[] lengths = {0, 1, 2, 7, 8, 9, 20};
        for (int x : starts) {
            for (int w : lengths) {
                House house = new House();
                house.blank(8, 16, 1, 2, 3);
                int across = within(x, w, 8);
                Check.due("3: x " + x + " w " + w, house.fill(0, 0, x, 15, w, 1, 99), across);
                Check.due("3: y " + x + " h " + w, house.fill(0, 2, 0, x, 1, w, 99), within(x, w, 8));
                Check.due("3: both", house.fill(0, 1, x, x, w, w, 99), within(x, w, 4) * within(x, w, 8));
                for (int i = 0; i < 8; i++) {
                    boolean in = i >= x && i < x + w;
                    Check.due("7: x " + i, house.sample(0, 0, i, 15), in ? 99 : 1);
                    Check.due("7: above", house.sample(0, 0, i, 14), 1);
                    Check.due("7: y " + i, house.sample(0, 2, 0, i), in ? 99 : 3);
                }
            }
        }
    }

    /** Sums of far places and sides don't wrap. */
    private static void filledFarAway() {
        int[][] rows = {{FAR, 1, 0}, {FAR, FAR, 0}, {DEEP, FAR, 0}, {DEEP + 1, FAR, 0}, {DEEP + 2, FAR, 1}, {-1, FAR, 8},
            {0, FAR, 8}, {1, FAR, 7}, {7, FAR, 1}, {8, FAR, 0}, {-FAR, FAR, 0}, {1 - FAR, FAR, 1}, {8 - FAR, FAR, 8}};
        for (int[] row : rows) {
            House house = new House();
            house.blank(8, 8, 1, 1, 1);
            Check.due("3: x " + row[0] + " w " + row[1], house.fill(0, 0, row[0], 0, row[1], 1, 9), row[2]);
            Check.due("3: y " + row[0] + " h " + row[1], house.fill(0, 0, 0, row[0], 1, row[1], 9), row[2]);
        }
    }

    /** "held to 0 .. 255". */
    private static void noiseHeld() {
        int[] values = {0, 1, 254, 255};
        for (int v : values) {
            House house = new House();
            house.blank(8, 8, v, v, v);
            house.noise(0, 1, 5L, 255);
            noiseIs(house, 1, v, 5L, 255);
            house.noise(0, 2, 6L, 1);
            noiseIs(house, 2, v, 6L, 1);
        }
    }

    private static void noiseIs(House house, int plane, int was, long seed, int amount) {
        long s = seed;
        for (int i = 0; i < 16; i++) {
            s = s * 6364136223846793005L + 1442695040888963407L;
            long v = was + (s >>> 33) % (2 * amount + 1) - amount;
            long want = Math.max(0, Math.min(255, v));
            Check.due("4: " + was + " and noise of " + amount, house.sample(0, plane, i % 4, i / 4), want);
        }
    }

    /** "(a long that wraps)": seeds whose products wrap at once, and s >>> 33 has no sign. */
    private static void noiseWraps() {
        long[] seeds = {0, 1, -1, Long.MAX_VALUE, Long.MIN_VALUE, 1L << 32, -(1L << 33)};
        for (long seed : seeds) {
            House house = new House();
            house.blank(8, 8, 128, 128, 128);
            house.noise(0, 1, seed, 100);
            noiseIs(house, 1, 128, seed, 100);
        }
    }

    private static void noiseOfNothing() {
        House house = new House();
        house.blank(8, 8, 77, 88, 99);
        house.noise(0, 0, 5L, 0);
        Check.due("4: an amount of 0", house.fill(0, 0, 0, 0, 0, 0, 0), 0);
        for (int i = 0; i < 64; i++) {
            Check.due("4: an amount of 0", house.sample(0, 0, i % 8, i / 8), 77);
        }
        house.noise(0, 0, 5L, 255);
        Check.due("4: other planes stay", house.sample(0, 1, 0, 0), 88);
        Check.due("4: other planes stay", house.sample(0, 2, 3, 3), 99);
    }

    private static House numbered() {
        House house = new House();
        house.blank(8, 8, 0, 0, 0);
        Check.text(house, "y*16+x+n*8");
        house.filter();
        house.apply(0, 0, 0);
        return house;
    }

    /** "that dx to the left of it and dy above it, of planes 1 and 2 by dx / 2, dy / 2 (towards 0)". */
    private static void shiftedBySome() {
        for (int d = -9; d <= 9; d++) {
            shiftIs(d, 0);
            shiftIs(0, d);
            shiftIs(d, -d);
        }
    }

    /** "beyond 1000 in size". */
    private static void shiftedFar() {
        int[] far = {-1000, -999, 999, 1000};
        for (int d : far) {
            shiftIs(d, 0);
            shiftIs(0, d);
            shiftIs(d, d);
        }
        House house = numbered();
        int[] beyond = {-1001, 1001, FAR, DEEP};
        for (int d : beyond) {
            Check.badArgument("5: dx " + d, () -> house.shift(1, d, 0));
            Check.badArgument("5: dy " + d, () -> house.shift(1, 0, d));
        }
        Check.due("43: nothing came", house.count(0), 2);
    }

    private static void shiftIs(int dx, int dy) {
        House house = numbered();
        Check.due("5: its number", house.shift(1, dx, dy), 2);
        for (int plane = 0; plane < 3; plane++) {
            int last = plane == 0 ? 7 : 3;
            int right = plane == 0 ? dx : dx / 2;
            int down = plane == 0 ? dy : dy / 2;
            for (int y = 0; y <= last; y++) {
                for (int x = 0; x <= last; x++) {
                    int fromX = Math.max(0, Math.min(last, x - right));
                    int fromY = Math.max(0, Math.min(last, y - down));
                    String name = "5: " + dx + ", " + dy + " in plane " + plane + " at " + x + ", " + y;
                    Check.due(name, house.sample(2, plane, x, y), fromY * 16 + fromX + plane * 8);
                }
            }
        }
        Check.due("5: the old one stays", house.sample(1, 0, 7, 7), 7 * 16 + 7);
    }

    /** "SAMPLES are 0 .. 255". */
    private static void leastAndMostSamples() {
        House house = new House();
        house.blank(8, 8, 0, 255, 1);
        Check.due("7: 0", house.sample(0, 0, 0, 0), 0);
        Check.due("7: 255", house.sample(0, 1, 0, 0), 255);
        Check.due("6: what it was", house.put(0, 0, 0, 0, 255), 0);
        Check.due("6: what it was", house.put(0, 0, 0, 0, 0), 255);
        Check.due("3: one", house.fill(0, 2, 3, 3, 1, 1, 255), 1);
        Check.due("7: 255", house.sample(0, 2, 3, 3), 255);
        Check.badArgument("6: 256", () -> house.put(0, 2, 3, 3, 256));
        Check.badArgument("6: -1", () -> house.put(0, 2, 3, 3, -1));
        Check.due("7: nothing was changed", house.sample(0, 2, 3, 3), 255);
    }

    /** "THE TAPE has at most 4000 bytes"; "there would be more than 4000". */
    private static void tapeIsFull() {
        for (int n = 1; n <= 8; n++) {
            House house = new House();
            for (int i = 0; i < 499; i++) {
                house.feed(-1L, 8);
            }
            int more = n;
            Check.due("10: 3992 and " + n, house.feed(0x0807060504030201L, n), 3992 + n);
            Check.due("12: the last one", house.tape(3991 + n), n);
            Check.due("12: behind it", house.tape(3992 + n), -1);
            Check.badState("10: one more than there may be", () -> house.feed(0L, 9 - more));
            Check.due("43: nothing was changed", house.count(5), 3992 + n);
            if (n < 8) {
                Check.due("10: just as many as there may be", house.feed(0L, 8 - n), 4000);
            }
            Check.badState("10: 4001", () -> house.feed(0L, 1));
        }
    }

    /** "The n lowest bytes of eight come, the lowest first". */
    private static void bytesOfEight() {
        for (int n = 1; n <= 8; n++) {
            House house = new House();
            Check.due("10: how many", house.feed(0xF8E7D6C5B4A39281L, n), n);
            int[] all = {0x81, 0x92, 0xA3, 0xB4, 0xC5, 0xD6, 0xE7, 0xF8};
            for (int i = 0; i < 8; i++) {
                Check.due("12: byte " + i + " of " + n, house.tape(i), i < n ? all[i] : -1);
            }
        }
    }

    /** "becomes the lowest eight bits of v: what it was". */
    private static void lowestEightBits() {
        int[] values = {0, 1, 127, 128, 255, 256, 257, -1, -128, -256, FAR, DEEP};
        House house = new House();
        house.feed(0L, 1);
        int was = 0;
        for (int v : values) {
            Check.due("11: what it was", house.alter(0, v), was);
            was = v & 255;
            Check.due("12: the lowest eight bits of " + v, house.tape(0), was);
        }
    }

    /** "-1 if there is none such"; "The tape is empty: how many bytes it had". */
    private static void emptyTape() {
        House house = new House();
        Check.due("12: none", house.tape(0), -1);
        Check.due("13: none", house.wipe(), 0);
        Check.noSuch("11: none", () -> house.alter(0, 0));
        house.feed(0x1234L, 2);
        Check.due("12: the last", house.tape(1), 0x12);
        Check.due("12: behind it", house.tape(2), -1);
        Check.due("13: how many", house.wipe(), 2);
        Check.due("12: none", house.tape(0), -1);
        Check.noSuch("11: none", () -> house.alter(0, 0));
        Check.due("10: from the first on", house.feed(7L, 1), 1);
    }
}
