/** Promises 17 to 21, 25 and 43: the lines that films have once they are there. */
public final class FilmEdgesTest {
    public static void main(String[] args) {
        fourThousandBytes();
        tapeIsTheFilm();
        eightFilms();
        sixtyPictures();
        picturesWithASpot();
        whereHeadsBegin();
        headBehindFourThousand();
        Check.end("FilmEdgesTest");
    }

    /** A film of WAVES of three loud pictures, the last one a little louder. */
    private static House large(int amount) {
        House house = new House();
        for (int p = 0; p < 3; p++) {
            house.blank(24, 24, 128, 128, 128);
            for (int plane = 0; plane < 3; plane++) {
                house.noise(p, plane, 12L + plane, p == 2 ? amount : 53);
            }
            house.reel(p);
        }
        house.make(1);
        return house;
    }

    /** "how many; -1, and nothing is done, if there are more than 4000". */
    private static void fourThousandBytes() {
        House fits = large(57);
        Check.due("20: 4000 bytes", fits.film(0, 5), 4000);
        fits.feed(0x0102L, 2);
        Check.due("19: 4000 bytes", fits.bytes(0), 4000);
        Check.due("43: bytes of the tape", fits.count(5), 4000);
        Check.due("12: the first", fits.tape(0), 77);
        Check.due("12: none behind the last", fits.tape(4000), -1);
        Check.due("18: it is a film", fits.read(), 1);
        for (int place = 0; place < 3; place++) {
            int p = fits.shown(0, place);
            int q = fits.shown(1, place);
            Check.due("33: the same one", fits.distance(p, q, 2), 0);
        }
        House above = large(58);
        Check.due("20: 4001 bytes", above.film(0, 5), 4001);
        above.feed(0x0102L, 2);
        Check.due("19: 4001 bytes", above.bytes(0), -1);
        Check.due("43: nothing is done", above.count(5), 2);
        Check.due("12: nothing is done", above.tape(0), 2);
        Check.due("12: nothing is done", above.tape(1), 1);
    }

    /** "A film's bytes are the tape": what was on it is gone, be it shorter or longer. */
    private static void tapeIsTheFilm() {
        House house = new House();
        house.reel(house.blank(8, 8, 1, 2, 3));
        int shorter = house.make(2);
        house.reel(house.blank(8, 8, 3, 2, 1));
        int longer = house.make(2);
        int few = house.film(shorter, 5);
        int many = house.film(longer, 5);
        Check.due("20: one is longer", few < many, true);
        Check.due("19: of an empty tape", house.bytes(shorter), few);
        Check.due("19: the longer one", house.bytes(longer), many);
        Check.due("12: its last byte is there", house.tape(many - 1) >= 0, true);
        Check.due("19: the shorter one", house.bytes(shorter), few);
        Check.due("12: nothing is behind", house.tape(few), -1);
        Check.due("43: bytes of the tape", house.count(5), few);
        Check.due("12: how many pictures", house.tape(6), 1);
    }

    /** "there are 8 films (here and below)": of make(), read() and cut() alike. */
    private static void eightFilms() {
        House house = new House();
        house.reel(house.blank(8, 8, 1, 2, 3));
        for (int f = 0; f < 8; f += 2) {
            Check.due("17: its number", house.make(0), f);
            if (f < 4) {
                house.bytes(f);
                Check.due("18: its number", house.read(), f + 1);
            } else {
                house.row(0, 0, 0);
                Check.due("28: its number", house.cut(), f + 1);
            }
        }
        Check.due("43: films", house.count(1), 8);
        Check.badState("17: a ninth", () -> house.make(0));
        house.bytes(0);
        Check.badState("18: a ninth", () -> house.read());
        house.row(0, 0, 0);
        Check.badState("28: a ninth", () -> house.cut());
        Check.due("20: the eighth is there", house.film(7, 4), 1);
        Check.noSuch("20: no ninth", () -> house.film(8, 4));
        house.set(5, 100);
        house.set(6, 50);
        Check.badState("17: a ninth, though it could not be made", () -> house.make(0));
        Check.due("30: how many there were", house.forget(), 8);
        Check.due("18: from the first number on", house.read(), 0);
    }

    private static void sixtyPictures() {
        House house = new House();
        house.reel(house.blank(8, 8, 1, 2, 3));
        int f = house.make(2);
        for (int p = 1; p < 60; p++) {
            Check.due("25: its number", house.shown(f, 0), p);
        }
        Check.badState("25: a 61st", () -> house.shown(f, 0));
        Check.due("8: its size", house.size(59, 1), 8);
        Check.due("7: its samples", house.sample(59, 2, 3, 3), 3);
        house.drop(1);
        Check.due("25: room again", house.shown(f, 0), 1);
    }

    /** "7 pictures with a SPOT": from none to all. */
    private static void picturesWithASpot() {
        for (int broken = 0; broken <= 4; broken++) {
            House house = new House();
            int[] all = Check.head(2, 8, 8, 25, 4);
            for (int k = 0; k < 4; k++) {
                Check.Bits one = Check.bits().code(0).code(63).eight(9).code(0).code(15).eight(9).code(0).code(15).eight(9);
                all = Check.join(all, Check.picture(0, k, 0, k < broken ? Check.bits() : one));
            }
            int f = Check.film(house, all);
            Check.due("20: with a spot", house.film(f, 7), broken);
            for (int k = 0; k < 4; k++) {
                Check.due("21: its rule", house.coded(f, k, 6), k < broken ? 1 : 0);
                Check.due("21: its spot", house.coded(f, k, 7), k < broken ? 0 : -1);
            }
        }
    }

    /** "4 where its head begins in the film": behind pictures of 0 and of 2000 bytes. */
    private static void whereHeadsBegin() {
        House house = new House();
        int f = Check.film(house, Check.head(0, 8, 8, 25, 3), new int[] {0, 0, 1, 0, 0}, new int[] {1, 1, 1, 7, 208},
            new int[2000], new int[] {1, 2, 31, 0, 1, 0});
        int[] at = {7, 12, 2017};
        int[] sizes = {0, 2000, 1};
        int[] steps = {1, 1, 31};
        for (int k = 0; k < 3; k++) {
            Check.due("21: where", house.coded(f, k, 4), at[k]);
            Check.due("21: how many bytes", house.coded(f, k, 3), sizes[k]);
            Check.due("21: STEP", house.coded(f, k, 2), steps[k]);
        }
    }

    /** A film may be longer than the tape: the fourth head is right behind the 4000th byte. */
    private static void headBehindFourThousand() {
        House house = large(57);
        house.reel(0);
        house.reel(1);
        int f = house.make(1);
        Check.due("17: it is made", f, 1);
        Check.due("21: where", house.coded(f, 3, 4), 4000);
        Check.due("21: PLACE", house.coded(f, 3, 1), 3);
        Check.due("20: none has a spot", house.film(f, 7), 0);
        Check.due("33: as it was", house.distance(0, house.shown(f, 3), 2), 0);
        Check.due("33: as it was", house.distance(1, house.shown(f, 4), 2), 0);
    }
}
