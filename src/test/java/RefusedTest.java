import java.util.ArrayList;
import java.util.List;
import java.util.function.Consumer;
import java.util.function.LongSupplier;
import java.util.function.Supplier;

/**
 * "Of several the one that stands first behind "throws" is thrown; a call that throws changes
 * nothing": each refused call is made on a house of which then the same can be seen as of one that
 * went without the call.
 */
public final class RefusedTest {
    private static final Class<?> INDEX = IndexOutOfBoundsException.class;
    private static final Class<?> ARGUMENT = IllegalArgumentException.class;
    private static final Class<?> STATE = IllegalStateException.class;
    private static final int FAR = Integer.MAX_VALUE;

    private static Supplier<House> source = House::new;
    private static List<Long> untouched = new ArrayList<>();

    public static void main(String[] args) {
        from(House::new);
        emptyHouse();
        from(RefusedTest::some);
        pictures();
        tapeAndSettings();
        reelAndFilms();
        asked();
        cuts();
        seen();
        players();
        from(RefusedTest::full);
        fullPictures();
        fullTapeAndReel();
        fullFilms();
        fullListAndFilters();
        from(RefusedTest::idle);
        playersWithoutFilm();
        Check.end("RefusedTest");
    }

    private static void from(Supplier<House> houses) {
        source = houses;
        untouched = seen(houses.get());
    }

    private static void refused(String what, Class<?> kind, Consumer<House> call) {
        House house = source.get();
        Check.thrown(what, kind, () -> call.accept(house));
        Check.due(what + " changes nothing", seen(house).equals(untouched), true);
    }

    /** An answer, or a number for the exception. */
    private static long answer(LongSupplier call) {
        try {
            return call.getAsLong();
        } catch (IndexOutOfBoundsException e) {
            return -1001;
        } catch (IllegalArgumentException e) {
            return -1002;
        } catch (IllegalStateException e) {
            return -1003;
        }
    }

    /** What can be seen of a house, at first without changing it, then by what it goes on to do. */
    private static List<Long> seen(House house) {
        List<Long> all = new ArrayList<>();
        for (int what = 0; what < 6; what++) {
            int i = what;
            all.add(answer(() -> house.count(i)));
        }
        for (int at = 0; at < 60; at++) {
            int p = at;
            all.add(answer(() -> house.sample(p, 0, 0, 0)));
        }
        for (int at = 0; at < 4008; at += 333) {
            int i = at;
            all.add(answer(() -> house.tape(i)));
        }
        for (int f = 0; f < 9; f++) {
            seenOfFilm(house, f, all);
        }
        for (int y = 0; y < 4; y++) {
            seenOfPlayer(house, y, all);
        }
        for (int what = 0; what < 8; what++) {
            int i = what;
            all.add(answer(() -> house.set(i, i == 5 ? 0 : i == 6 ? 50 : 1)));
        }
        goneOn(house, all);
        return all;
    }

    private static void seenOfFilm(House house, int f, List<Long> all) {
        int[] whats = {0, 4, 5};
        for (int what : whats) {
            all.add(answer(() -> house.film(f, what)));
        }
        all.add(answer(() -> house.look(f, 1, 0, 5, 5)));
        all.add(answer(() -> house.kept(f, 0) ? 1 : 0));
    }

    private static void seenOfPlayer(House house, int y, List<Long> all) {
        for (int what = 0; what < 6; what++) {
            int i = what;
            all.add(answer(() -> house.player(y, i)));
        }
        all.add(answer(() -> house.frame(y, 0, 4, 4)));
        for (int turn = 0; turn < 2; turn++) {
            all.add(answer(() -> house.tick(y)));
            all.add(answer(() -> house.frame(y, 0, 4, 4)));
        }
    }

    /** The list by a cut, the reel by a film, the filters by what they make, the tape by its length. */
    private static void goneOn(House house, List<Long> all) {
        all.add(answer(house::cut));
        all.add(answer(() -> house.film(house.count(1) - 1, 5)));
        all.add(answer(house::forget));
        all.add(answer(() -> house.make(2)));
        all.add(answer(() -> house.film(0, 5)));
        all.add(answer(() -> house.drop(2)));
        for (int q = 0; q < 8; q++) {
            int filter = q;
            all.add(answer(() -> house.apply(filter, 0, 7)));
            all.add(answer(() -> house.sample(house.count(0) - 1, 0, 6, 6)));
        }
        all.add(answer(house::unreel));
        all.add(answer(house::wipe));
    }

    /** A few of all: two pictures of a size and one of another, films of three codings, two rows. */
    private static House some() {
        House house = new House();
        house.blank(16, 8, 100, 90, 80);
        house.noise(0, 0, 8L, 60);
        house.shift(0, 1, 0);
        house.blank(8, 8, 1, 2, 3);
        house.reel(0);
        house.reel(1);
        for (int coding = 0; coding < 3; coding++) {
            house.make(coding);
        }
        house.row(0, 0, 1);
        house.row(0, 1, 1);
        Check.text(house, "s+x");
        house.filter();
        Check.text(house, "a(1,t)");
        for (int y = 0; y < 4; y++) {
            house.play(y, 0, 90, 100);
            house.tick(y);
            house.tick(y);
        }
        return house;
    }

    /** As many of all as there may be. */
    private static House full() {
        House house = new House();
        house.blank(24, 24, 128, 128, 128);
        for (int plane = 0; plane < 3; plane++) {
            house.noise(0, plane, 5L + plane, 55);
        }
        house.blank(8, 8, 1, 2, 3);
        while (house.count(0) < 60) {
            house.blank(24, 24, house.count(0), 2, 3);
        }
        for (int i = 0; i < 3; i++) {
            house.reel(0);
        }
        int waves = house.make(1);
        while (house.count(3) < 12) {
            house.reel(house.count(3));
        }
        house.make(2);
        house.unreel();
        for (int i = 0; i < 12; i++) {
            house.reel(i + 10);
        }
        while (house.count(1) < 8) {
            house.make(0);
        }
        for (int q = 0; q < 8; q++) {
            Check.text(house, "s+" + q);
            house.filter();
            house.row(2 + q % 6, q, q + 1);
        }
        house.bytes(waves);
        while (house.count(5) + 8 <= 4000) {
            house.feed(-1L, 8);
        }
        while (house.count(5) < 4000) {
            house.feed('x', 1);
        }
        for (int y = 0; y < 4; y++) {
            house.play(y, 2 + y, 90, 0);
            house.tick(y);
        }
        return house;
    }

    /** A film, but no players of it. */
    private static House idle() {
        House house = some();
        house.forget();
        house.make(0);
        return house;
    }

    private static void emptyHouse() {
        refused("3: no picture", INDEX, h -> h.fill(0, 0, 0, 0, 1, 1, 1));
        refused("4: no picture", INDEX, h -> h.noise(0, 0, 1L, 1));
        refused("5: no picture", INDEX, h -> h.shift(0, 0, 0));
        refused("6: no picture", INDEX, h -> h.put(0, 0, 0, 0, 1));
        refused("7: no picture", INDEX, h -> h.sample(0, 0, 0, 0));
        refused("8: no picture", INDEX, h -> h.size(0, 0));
        refused("11: no byte", INDEX, h -> h.alter(0, 1));
        refused("15: no picture", INDEX, h -> h.reel(0));
        refused("17: the reel is empty", ARGUMENT, h -> h.make(0));
        refused("19: no film", INDEX, h -> h.bytes(0));
        refused("20: no film", INDEX, h -> h.film(0, 0));
        refused("21: no film", INDEX, h -> h.coded(0, 0, 0));
        refused("22: no film", INDEX, h -> h.part(0, 0, 0, 0));
        refused("23: no film", INDEX, h -> h.look(0, 0, 0, 0, 0));
        refused("24: no film", INDEX, h -> h.mended(0, 0, 0, 0, 0));
        refused("25: no film", INDEX, h -> h.shown(0, 0));
        refused("26: no film", INDEX, h -> h.buffer(0, 0, 100, 50));
        refused("27: no film", INDEX, h -> h.row(0, 0, 0));
        refused("29: no film", INDEX, h -> h.kept(0, 0));
        refused("32: no filter", INDEX, h -> h.apply(0, 0, 0));
        refused("33: no picture", INDEX, h -> h.distance(0, 0, 0));
        refused("34: no film", INDEX, h -> h.first(0, 0));
        refused("35: no film", INDEX, h -> h.twin(0, 0));
        refused("36: no film", INDEX, h -> h.movement(0, 1, 0, 0));
        refused("37: no film", INDEX, h -> h.play(0, 0, 1, 0));
        refused("38: no film", STATE, h -> h.tick(0));
    }

    private static void pictures() {
        refused("2: a size", ARGUMENT, h -> h.blank(8, 12, 1, 1, 1));
        refused("2: a sample", ARGUMENT, h -> h.blank(8, 8, 1, 1, 256));
        refused("3: the picture ahead of v", INDEX, h -> h.fill(3, 0, 0, 0, 1, 1, 256));
        refused("3: the plane ahead of w", INDEX, h -> h.fill(0, 3, 0, 0, -1, 1, 1));
        refused("3: v", ARGUMENT, h -> h.fill(0, 0, 0, 0, 16, 8, 256));
        refused("3: w", ARGUMENT, h -> h.fill(0, 0, 15, 7, -1, 1, 9));
        refused("3: h", ARGUMENT, h -> h.fill(0, 0, 0, 0, 1, -1, 9));
        refused("4: the picture ahead of the amount", INDEX, h -> h.noise(3, 0, 1L, 256));
        refused("4: the plane ahead of the amount", INDEX, h -> h.noise(0, 3, 1L, 256));
        refused("4: the amount", ARGUMENT, h -> h.noise(0, 0, 1L, 256));
        refused("5: the picture ahead of dx", INDEX, h -> h.shift(3, 1001, 0));
        refused("5: dx", ARGUMENT, h -> h.shift(0, 1001, 0));
        refused("6: the sample ahead of v", INDEX, h -> h.put(0, 0, 16, 0, 256));
        refused("6: v", ARGUMENT, h -> h.put(0, 0, 0, 0, 256));
        refused("7: the sample", INDEX, h -> h.sample(0, 0, 16, 0));
        refused("8: the picture ahead of what", INDEX, h -> h.size(3, 2));
        refused("8: what", ARGUMENT, h -> h.size(0, 2));
        refused("9: n", ARGUMENT, h -> h.drop(-1));
        refused("43: what", ARGUMENT, h -> h.count(6));
    }

    private static void tapeAndSettings() {
        refused("10: n", ARGUMENT, h -> h.feed(1L, 0));
        refused("10: n", ARGUMENT, h -> h.feed(1L, 9));
        refused("11: i", INDEX, h -> h.alter(6, 9));
        refused("11: i", INDEX, h -> h.alter(-1, 9));
        for (int what = 0; what < 8; what++) {
            int setting = what;
            refused("14: setting " + what, ARGUMENT, h -> h.set(setting, -1));
            refused("14: setting " + what, ARGUMENT, h -> h.set(setting, 20001));
        }
        refused("14: what", ARGUMENT, h -> h.set(8, 1));
        refused("14: what", ARGUMENT, h -> h.set(-1, 1));
    }

    private static void reelAndFilms() {
        refused("15: the picture", INDEX, h -> h.reel(3));
        refused("15: another size", ARGUMENT, h -> h.reel(2));
        refused("17: the coding", ARGUMENT, h -> h.make(3));
        refused("19: the film", INDEX, h -> h.bytes(3));
        refused("25: the film", INDEX, h -> h.shown(3, 0));
        refused("25: the place", INDEX, h -> h.shown(0, 2));
    }

    private static void asked() {
        refused("20: the film ahead of what", INDEX, h -> h.film(3, 8));
        refused("20: what", ARGUMENT, h -> h.film(0, 8));
        refused("21: the film ahead of what", INDEX, h -> h.coded(3, 0, 8));
        refused("21: the picture ahead of what", INDEX, h -> h.coded(0, 2, 8));
        refused("21: what", ARGUMENT, h -> h.coded(0, 0, 8));
        refused("22: the film ahead of what", INDEX, h -> h.part(3, 0, 0, 7));
        refused("22: the picture ahead of what", INDEX, h -> h.part(0, 2, 0, 7));
        refused("22: the part ahead of what", INDEX, h -> h.part(0, 0, 2, 7));
        refused("22: WAVES ahead of what", INDEX, h -> h.part(1, 0, 0, 7));
        refused("22: RUNS ahead of what", INDEX, h -> h.part(2, 0, 0, 7));
        refused("22: what", ARGUMENT, h -> h.part(0, 0, 0, 7));
        refused("23: the sample", INDEX, h -> h.look(0, 0, 1, 8, 0));
        refused("24: the sample", INDEX, h -> h.mended(0, 0, 1, 8, 0));
        refused("26: the film ahead of the size", INDEX, h -> h.buffer(3, 0, 99, 50));
        refused("26: the picture ahead of the flow", INDEX, h -> h.buffer(0, 2, 100, 49));
        refused("26: the size", ARGUMENT, h -> h.buffer(0, 0, 99, 50));
        refused("26: the flow", ARGUMENT, h -> h.buffer(0, 0, 100, 49));
    }

    private static void cuts() {
        refused("27: the film", INDEX, h -> h.row(3, 0, 0));
        refused("27: from, ahead of to below from", INDEX, h -> h.row(0, 2, 0));
        refused("27: to, ahead of to below from", INDEX, h -> h.row(0, 0, -1));
        refused("27: the place ahead of the coding", INDEX, h -> h.row(1, 0, 2));
        refused("27: the coding", ARGUMENT, h -> h.row(1, 0, 0));
        refused("27: to below from", ARGUMENT, h -> h.row(0, 1, 0));
        refused("29: the place", INDEX, h -> h.kept(0, 2));
    }

    private static void seen() {
        refused("32: the filter", INDEX, h -> h.apply(1, 0, 0));
        refused("32: the picture", INDEX, h -> h.apply(0, 3, 0));
        refused("33: the picture ahead of what", INDEX, h -> h.distance(0, 3, 4));
        refused("33: two sizes", ARGUMENT, h -> h.distance(0, 2, 0));
        refused("33: what", ARGUMENT, h -> h.distance(0, 1, 4));
        refused("34: the place", INDEX, h -> h.first(0, 2));
        refused("35: the place", INDEX, h -> h.twin(0, 2));
        refused("36: place 0 ahead of what", INDEX, h -> h.movement(0, 0, 0, 3));
        refused("36: the part ahead of what", INDEX, h -> h.movement(0, 1, 2, 3));
        refused("36: what", ARGUMENT, h -> h.movement(0, 1, 0, 3));
    }

    private static void players() {
        refused("37: the player ahead of the speed", INDEX, h -> h.play(4, 0, 0, 0));
        refused("37: the film ahead of the speed", INDEX, h -> h.play(0, 3, 0, 0));
        refused("37: the speed", ARGUMENT, h -> h.play(0, 1, 0, 0));
        refused("37: the speed", ARGUMENT, h -> h.play(0, 1, 4001, 0));
        refused("37: the fill", ARGUMENT, h -> h.play(0, 1, 1, -1));
        refused("37: the fill", ARGUMENT, h -> h.play(0, 1, 1, 4001));
        refused("38: the player", INDEX, h -> h.tick(4));
        refused("39: the player", INDEX, h -> h.lose(4, 3));
        refused("40: the player", INDEX, h -> h.seek(4, 0));
        refused("40: the place", INDEX, h -> h.seek(0, 2));
        refused("40: the place", INDEX, h -> h.seek(0, -1));
        refused("41: the player ahead of what", INDEX, h -> h.player(4, 6));
        refused("41: what", ARGUMENT, h -> h.player(0, 6));
        refused("42: the player", INDEX, h -> h.frame(4, 0, 0, 0));
        refused("42: the plane", INDEX, h -> h.frame(0, 3, 0, 0));
        refused("42: x", INDEX, h -> h.frame(0, 0, 16, 0));
    }

    /** "IllegalStateException: there are 60 (here and below)". */
    private static void fullPictures() {
        refused("2: a 61st", STATE, h -> h.blank(8, 8, 1, 1, 1));
        refused("2: a size ahead of room", ARGUMENT, h -> h.blank(8, 9, 1, 1, 1));
        refused("2: a sample ahead of room", ARGUMENT, h -> h.blank(8, 8, 1, -1, 1));
        refused("5: a 61st", STATE, h -> h.shift(0, 1, 1));
        refused("5: the picture ahead of all", INDEX, h -> h.shift(60, 1001, 0));
        refused("5: dy ahead of room", ARGUMENT, h -> h.shift(0, 0, -1001));
        refused("25: a 61st", STATE, h -> h.shown(0, 0));
        refused("25: the film ahead of room", INDEX, h -> h.shown(8, 0));
        refused("25: the place ahead of room", INDEX, h -> h.shown(0, 3));
        refused("32: a 61st", STATE, h -> h.apply(0, 0, 0));
        refused("32: the filter ahead of room", INDEX, h -> h.apply(8, 0, 0));
        refused("32: the picture ahead of room", INDEX, h -> h.apply(0, 60, 0));
    }

    private static void fullTapeAndReel() {
        refused("10: more than 4000", STATE, h -> h.feed(1L, 1));
        refused("10: far more than 4000", STATE, h -> h.feed(1L, 8));
        refused("10: n ahead of room", ARGUMENT, h -> h.feed(1L, 9));
        refused("15: it has 12", STATE, h -> h.reel(0));
        refused("15: the picture ahead of all", INDEX, h -> h.reel(60));
        refused("15: the size ahead of room", ARGUMENT, h -> h.reel(1));
    }

    /** "IllegalStateException: there are 8 films (here and below)". */
    private static void fullFilms() {
        for (int coding = 0; coding < 3; coding++) {
            int c = coding;
            refused("17: a ninth", STATE, h -> h.make(c));
        }
        refused("17: the coding ahead of room", ARGUMENT, h -> h.make(3));
        refused("17: the empty reel ahead of room", ARGUMENT, h -> {
            // Put back what unreel() took, for the reel is to be as it was.
            h.unreel();
            try {
                h.make(0);
            } finally {
                for (int i = 0; i < 12; i++) {
                    h.reel(i + 10);
                }
            }
        });
        refused("18: a ninth", STATE, h -> h.read());
        refused("28: a ninth", STATE, h -> h.cut());
    }

    private static void fullListAndFilters() {
        refused("27: it has 8", STATE, h -> h.row(2, 0, 0));
        refused("27: the film ahead of all", INDEX, h -> h.row(8, 0, 0));
        refused("27: the place ahead of all", INDEX, h -> h.row(2, 0, 12));
        refused("27: the coding ahead of room", ARGUMENT, h -> h.row(0, 0, 0));
        refused("27: to below from ahead of room", ARGUMENT, h -> h.row(2, 1, 0));
        refused("31: a ninth", STATE, h -> h.filter());
    }

    /** "it has no film (here and below)"; "(without a film none is looked for)" and the like. */
    private static void playersWithoutFilm() {
        for (int y = 0; y < 4; y++) {
            int at = y;
            refused("38: no film", STATE, h -> h.tick(at));
            refused("39: no film", STATE, h -> h.lose(at, 1));
            refused("40: no film", STATE, h -> h.seek(at, 0));
            refused("41: no film", STATE, h -> h.player(at, 0));
            refused("42: no film", STATE, h -> h.frame(at, 0, 0, 0));
        }
        refused("38: the player ahead of the film", INDEX, h -> h.tick(4));
        refused("39: the player ahead of the film", INDEX, h -> h.lose(-1, 1));
        refused("40: the player ahead of the film", INDEX, h -> h.seek(4, 0));
        refused("40: no place is looked for", STATE, h -> h.seek(0, 99));
        refused("40: no place is looked for", STATE, h -> h.seek(0, -1));
        refused("41: the player ahead of all", INDEX, h -> h.player(4, 6));
        refused("41: what ahead of the film", ARGUMENT, h -> h.player(0, 6));
        refused("42: the player ahead of the film", INDEX, h -> h.frame(4, 0, 0, 0));
        refused("42: the plane ahead of the film", INDEX, h -> h.frame(0, 3, 0, 0));
        refused("42: the plane ahead of the film", INDEX, h -> h.frame(0, -1, 0, 0));
        refused("42: x isn't looked at", STATE, h -> h.frame(0, 0, FAR, 0));
        refused("42: y isn't looked at", STATE, h -> h.frame(0, 0, 0, -1));
    }
}
