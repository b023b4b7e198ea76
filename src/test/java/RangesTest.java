/**
 * Every argument of every call that the document holds within two lines: the least and the most
 * that may be, their neighbours beyond, and the farthest ints.
 */
public final class RangesTest {
    private static final int FAR = Integer.MAX_VALUE;
    private static final int DEEP = Integer.MIN_VALUE;
    private static final int[] SIDES = {8, 16, 24};

    public static void main(String[] args) {
        sizesOfPictures();
        picturesAndPlanes();
        samplesOfPictures();
        valuesAndAmounts();
        sidesOfFill();
        whatsOfPictures();
        tape();
        settings();
        films();
        samplesOfFilms();
        cuts();
        filtersAndSeen();
        players();
        Check.end("RangesTest");
    }

    /** Pictures 0 to 2, films 0 (BLOCKS, three pictures) to 2 (RUNS), filters 0 and 1, all players. */
    private static House house() {
        House house = new House();
        for (int p = 0; p < 3; p++) {
            house.blank(24, 16, 50 * p, 90, 200);
            house.reel(p);
        }
        house.make(0);
        house.make(1);
        house.make(2);
        for (int q = 0; q < 2; q++) {
            Check.text(house, "s+1");
            house.filter();
        }
        for (int y = 0; y < 4; y++) {
            house.play(y, 0, 4000, 0);
            house.tick(y);
        }
        house.feed(0x0504030201L, 5);
        return house;
    }

    /** "PICTURES have a WIDTH and a HEIGHT, each 8, 16 or 24" (2: "the size isn't as told"). */
    private static void sizesOfPictures() {
        for (int side = -25; side <= 49; side++) {
            boolean told = side == 8 || side == 16 || side == 24;
            int v = side;
            if (told) {
                Check.due("2: width " + v, new House().blank(v, 8, 0, 0, 0), 0);
                Check.due("2: height " + v, new House().blank(8, v, 0, 0, 0), 0);
            } else {
                Check.badArgument("2: width " + v, () -> new House().blank(v, 8, 0, 0, 0));
                Check.badArgument("2: height " + v, () -> new House().blank(8, v, 0, 0, 0));
            }
        }
        int[] far = {FAR, DEEP, 256 + 8, 65536 + 16};
        for (int v : far) {
            Check.badArgument("2: width " + v, () -> new House().blank(v, 8, 0, 0, 0));
            Check.badArgument("2: height " + v, () -> new House().blank(8, v, 0, 0, 0));
        }
    }

    /** "no such picture, plane" of every call that names one. */
    private static void picturesAndPlanes() {
        Check.numberRange("3: p", 0, 2, v -> house().fill(v, 0, 0, 0, 1, 1, 1));
        Check.numberRange("3: plane", 0, 2, v -> house().fill(0, v, 0, 0, 1, 1, 1));
        Check.numberRange("4: p", 0, 2, v -> house().noise(v, 0, 1L, 1));
        Check.numberRange("4: plane", 0, 2, v -> house().noise(0, v, 1L, 1));
        Check.numberRange("5: p", 0, 2, v -> house().shift(v, 1, 1));
        Check.numberRange("6: p", 0, 2, v -> house().put(v, 0, 0, 0, 1));
        Check.numberRange("6: plane", 0, 2, v -> house().put(0, v, 0, 0, 1));
        Check.numberRange("7: p", 0, 2, v -> house().sample(v, 0, 0, 0));
        Check.numberRange("7: plane", 0, 2, v -> house().sample(0, v, 0, 0));
        Check.numberRange("8: p", 0, 2, v -> house().size(v, 0));
        Check.numberRange("15: p", 0, 2, v -> house().reel(v));
        Check.numberRange("32: p", 0, 2, v -> house().apply(0, v, 0));
        Check.numberRange("33: p", 0, 2, v -> house().distance(v, 0, 0));
        Check.numberRange("33: q", 0, 2, v -> house().distance(0, v, 0));
    }

    /** "also no such sample": planes 1 and 2 have half of both sides, in all nine sizes. */
    private static void samplesOfPictures() {
        for (int width : SIDES) {
            for (int height : SIDES) {
                for (int plane = 0; plane < 3; plane++) {
                    House house = new House();
                    house.blank(width, height, 1, 2, 3);
                    int at = plane;
                    int right = (plane == 0 ? width : width / 2) - 1;
                    int low = (plane == 0 ? height : height / 2) - 1;
                    String name = " in plane " + plane + " of " + width + " by " + height;
                    Check.numberRange("6: x" + name, 0, right, v -> house.put(0, at, v, low, 9));
                    Check.numberRange("6: y" + name, 0, low, v -> house.put(0, at, right, v, 9));
                    Check.numberRange("7: x" + name, 0, right, v -> house.sample(0, at, v, low));
                    Check.numberRange("7: y" + name, 0, low, v -> house.sample(0, at, right, v));
                    int sum = 0;
                    for (int other = 0; other < 3; other++) {
                        sum += house.fill(0, other, -30, -30, 90, 90, 9);
                    }
                    Check.due("3: all samples of " + width + " by " + height, sum, width * height * 3 / 2);
                }
            }
        }
    }

    private static void valuesAndAmounts() {
        Check.argumentRange("2: a", 0, 255, v -> house().blank(8, 8, v, 0, 0));
        Check.argumentRange("2: b", 0, 255, v -> house().blank(8, 8, 0, v, 0));
        Check.argumentRange("2: c", 0, 255, v -> house().blank(8, 8, 0, 0, v));
        Check.argumentRange("3: v", 0, 255, v -> house().fill(0, 0, 0, 0, 1, 1, v));
        Check.argumentRange("3: v of nothing", 0, 255, v -> house().fill(0, 0, 0, 0, 0, 0, v));
        Check.argumentRange("4: amount", 0, 255, v -> house().noise(0, 0, 1L, v));
        Check.argumentRange("5: dx", -1000, 1000, v -> house().shift(0, v, 0));
        Check.argumentRange("5: dy", -1000, 1000, v -> house().shift(0, 0, v));
        Check.argumentRange("6: v", 0, 255, v -> house().put(0, 0, 0, 0, v));
    }

    /** "w or h is below 0": 0 and all above may be. */
    private static void sidesOfFill() {
        int[] below = {-1, DEEP};
        for (int v : below) {
            Check.badArgument("3: w " + v, () -> house().fill(0, 0, 0, 0, v, 1, 1));
            Check.badArgument("3: h " + v, () -> house().fill(0, 0, 0, 0, 1, v, 1));
        }
        Check.due("3: w 0", house().fill(0, 0, 0, 0, 0, 1, 1), 0);
        Check.due("3: h 0", house().fill(0, 0, 0, 0, 1, 0, 1), 0);
        Check.due("3: w 1", house().fill(0, 0, 0, 0, 1, 1, 1), 1);
        Check.due("3: the greatest w", house().fill(0, 0, 0, 0, FAR, 1, 1), 24);
        Check.due("3: the greatest h", house().fill(0, 0, 0, 0, 1, FAR, 1), 16);
    }

    private static void whatsOfPictures() {
        Check.argumentRange("8: what", 0, 1, v -> house().size(0, v));
        Check.argumentRange("33: what", 0, 3, v -> house().distance(0, 1, v));
        Check.argumentRange("43: what", 0, 5, v -> house().count(v));
        Check.due("9: n 0", house().drop(0), 0);
        Check.due("9: the greatest n", house().drop(FAR), 3);
        Check.badArgument("9: n -1", () -> house().drop(-1));
        Check.badArgument("9: the least n", () -> house().drop(DEEP));
    }

    private static void tape() {
        Check.argumentRange("10: n", 1, 8, v -> house().feed(0L, v));
        Check.numberRange("11: i", 0, 4, v -> house().alter(v, 1));
        int[] at = {0, 4, -1, 5, DEEP, FAR};
        int[] want = {1, 5, -1, -1, -1, -1};
        for (int i = 0; i < at.length; i++) {
            Check.due("12: tape(" + at[i] + ")", house().tape(at[i]), want[i]);
        }
    }

    /** "no such setting, or v isn't within". */
    private static void settings() {
        int[] least = {1, 1, 0, 0, 1, 100, 50, 0};
        int[] most = {60, 12, 2, 8, 31, 20000, 10000, 1};
        Check.argumentRange("14: what", 0, 7, v -> house().set(v, v == 5 ? 100 : v == 6 ? 50 : 1));
        for (int what = 0; what < 8; what++) {
            int setting = what;
            Check.argumentRange("14: setting " + what, least[what], most[what], v -> house().set(setting, v));
        }
        Check.due("14: SIZE 0", house().set(5, 0), 0);
        Check.badArgument("14: SIZE 1", () -> house().set(5, 1));
        Check.badArgument("14: SIZE -1", () -> house().set(5, -1));
        Check.badArgument("14: FLOW 0", () -> house().set(6, 0));
    }

    private static void films() {
        Check.argumentRange("17: coding", 0, 2, v -> house().make(v));
        Check.numberRange("19: f", 0, 2, v -> house().bytes(v));
        Check.numberRange("20: f", 0, 2, v -> house().film(v, 0));
        Check.argumentRange("20: what", 0, 7, v -> house().film(0, v));
        Check.numberRange("21: f", 0, 2, v -> house().coded(v, 0, 0));
        Check.numberRange("21: k", 0, 2, v -> house().coded(0, v, 0));
        Check.argumentRange("21: what", 0, 7, v -> house().coded(0, 0, v));
        Check.numberRange("22: f, of which 1 and 2 are of another coding", 0, 0, v -> house().part(v, 0, 0, 0));
        Check.noSuch("22: RUNS", () -> house().part(2, 0, 0, 0));
        Check.numberRange("22: k", 0, 2, v -> house().part(0, v, 0, 0));
        Check.numberRange("22: m", 0, 5, v -> house().part(0, 0, v, 0));
        Check.argumentRange("22: what", 0, 6, v -> house().part(0, 0, 0, v));
        Check.numberRange("25: f", 0, 2, v -> house().shown(v, 0));
        Check.numberRange("25: place", 0, 2, v -> house().shown(0, v));
        Check.numberRange("26: f", 0, 2, v -> house().buffer(v, 0, 100, 50));
        Check.numberRange("26: k", 0, 2, v -> house().buffer(0, v, 100, 50));
        Check.argumentRange("26: size", 100, 20000, v -> house().buffer(0, 0, v, 50));
        Check.argumentRange("26: flow", 50, 10000, v -> house().buffer(0, 0, 100, v));
        Check.badArgument("26: a size of 0 is none here", () -> house().buffer(0, 0, 0, 50));
    }

    private static void samplesOfFilms() {
        for (int f = 0; f < 3; f++) {
            int film = f;
            Check.numberRange("23: place", 0, 2, v -> house().look(film, v, 0, 0, 0));
            Check.numberRange("24: place", 0, 2, v -> house().mended(film, v, 0, 0, 0));
        }
        Check.numberRange("23: f", 0, 2, v -> house().look(v, 0, 0, 0, 0));
        Check.numberRange("24: f", 0, 2, v -> house().mended(v, 0, 0, 0, 0));
        Check.numberRange("23: plane", 0, 2, v -> house().look(0, 0, v, 0, 0));
        Check.numberRange("24: plane", 0, 2, v -> house().mended(0, 0, v, 0, 0));
        for (int plane = 0; plane < 3; plane++) {
            int at = plane;
            int right = plane == 0 ? 23 : 11;
            int low = plane == 0 ? 15 : 7;
            Check.numberRange("23: x of plane " + plane, 0, right, v -> house().look(0, 2, at, v, low));
            Check.numberRange("23: y of plane " + plane, 0, low, v -> house().look(0, 2, at, right, v));
            Check.numberRange("24: x of plane " + plane, 0, right, v -> house().mended(0, 2, at, v, low));
            Check.numberRange("24: y of plane " + plane, 0, low, v -> house().mended(0, 2, at, right, v));
        }
    }

    private static void cuts() {
        Check.noSuch("27: f -1", () -> house().row(-1, 0, 0));
        Check.noSuch("27: f 3", () -> house().row(3, 0, 0));
        Check.badArgument("27: WAVES", () -> house().row(1, 0, 0));
        Check.badArgument("27: RUNS", () -> house().row(2, 0, 0));
        Check.numberRange("27: from", 0, 2, v -> house().row(0, v, 2));
        Check.numberRange("27: to", 0, 2, v -> house().row(0, 0, v));
        Check.due("27: to is from", house().row(0, 1, 1), 1);
        Check.due("27: to is above from", house().row(0, 1, 2), 1);
        Check.badArgument("27: to is below from", () -> house().row(0, 1, 0));
        Check.numberRange("29: f", 0, 2, v -> house().kept(v, 0));
        Check.numberRange("29: place", 0, 2, v -> house().kept(0, v));
    }

    private static void filtersAndSeen() {
        Check.numberRange("32: q", 0, 1, v -> house().apply(v, 0, 0));
        Check.due("32: any t", house().apply(0, 0, DEEP), 3);
        Check.due("32: any t", house().apply(0, 0, FAR), 3);
        Check.numberRange("34: f", 0, 2, v -> house().first(v, 0));
        Check.numberRange("34: place", 0, 2, v -> house().first(0, v));
        Check.numberRange("35: f", 0, 2, v -> house().twin(v, 0));
        Check.numberRange("35: place", 0, 2, v -> house().twin(0, v));
        Check.numberRange("36: f", 0, 2, v -> house().movement(v, 1, 0, 0));
        Check.numberRange("36: place, of which 0 is none", 1, 2, v -> house().movement(0, v, 0, 0));
        for (int f = 0; f < 3; f++) {
            int film = f;
            Check.numberRange("36: m, of any coding", 0, 5, v -> house().movement(film, 1, v, 0));
        }
        Check.argumentRange("36: what", 0, 2, v -> house().movement(0, 1, 0, v));
    }

    private static void players() {
        Check.numberRange("37: y", 0, 3, v -> house().play(v, 0, 1, 0));
        Check.numberRange("37: f", 0, 2, v -> house().play(0, v, 1, 0));
        Check.argumentRange("37: speed", 1, 4000, v -> house().play(0, 0, v, 0));
        Check.argumentRange("37: fill", 0, 4000, v -> house().play(0, 0, 1, v));
        Check.numberRange("38: y", 0, 3, v -> house().tick(v));
        Check.numberRange("39: y", 0, 3, v -> house().lose(v, 0));
        Check.passes("39: any mask", () -> house().lose(0, FAR));
        Check.passes("39: any mask", () -> house().lose(0, DEEP));
        Check.numberRange("40: y", 0, 3, v -> house().seek(v, 0));
        Check.numberRange("40: place", 0, 2, v -> house().seek(0, v));
        Check.numberRange("41: y", 0, 3, v -> house().player(v, 0));
        Check.argumentRange("41: what", 0, 5, v -> house().player(0, v));
        Check.numberRange("42: y", 0, 3, v -> house().frame(v, 0, 0, 0));
        Check.numberRange("42: plane", 0, 2, v -> house().frame(0, v, 0, 0));
        for (int plane = 0; plane < 3; plane++) {
            int at = plane;
            int right = plane == 0 ? 23 : 11;
            int low = plane == 0 ? 15 : 7;
            Check.numberRange("42: x of plane " + plane, 0, right, v -> house().frame(0, at, v, low));
            Check.numberRange("42: y of plane " + plane, 0, low, v -> house().frame(0, at, right, v));
        }
    }
}
