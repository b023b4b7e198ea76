/** Term 10 and promises 37 to 42: the lines that players have. */
public final class PlayerEdgesTest {
    private static final int I = 0;
    private static final int P = 1;
    private static final int B = 2;
    /** In the film of film(): where each place's picture ends, and where its group begins. */
    private static final int[] END = {13, 25, 19, 31, 37};
    private static final int[] GROUP_AT = {7, 7, 7, 25, 25};
    private static final int LENGTH = 37;

    public static void main(String[] args) {
        playedAnew();
        shownWhenItHasCome();
        lateTicks();
        fillIsThere();
        allThatThereAre();
        speeds();
        allHaveBeenShown();
        bytesComeInAnyCase();
        soughtPlaces();
        fillSinceSought();
        soughtWhileItRuns();
        seekKeeps();
        withoutSeek();
        lostBits();
        lostOfOthers();
        readAnew();
        brokenOnes();
        fourPlayers();
        nothingWasShown();
        longFilm();
        onePicture();
        Check.end("PlayerEdgesTest");
    }

    private static Check.Bits lit(int way, int more) {
        Check.Bits one = Check.bits().code(way);
        for (int block = 0; block < 4; block++) {
            one.code(1).code(0).signed(16 * more);
        }
        return one.empty(2);
    }

    /** I0 P2 B1, I3 P4, each of one byte: 37 bytes in all. */
    private static House film() {
        House house = new House();
        Check.Bits flat = Check.bits().code(0).empty(6);
        Check.Bits skipped = Check.bits().code(0);
        int f = Check.film(house, Check.head(0, 8, 8, 25, 5), Check.picture(I, 0, 1, flat), Check.picture(P, 2, 1, skipped),
            Check.picture(B, 1, 1, skipped), Check.picture(I, 3, 1, flat), Check.picture(P, 4, 1, skipped));
        Check.due("20: bytes", house.film(f, 5), LENGTH);
        Check.due("20: groups", house.film(f, 6), 2);
        return house;
    }

    private static void stands(String what, House house, int y, int... want) {
        for (int i = 0; i < want.length; i++) {
            Check.due("41: " + i + ": " + what, house.player(y, i), want[i]);
        }
    }

    /** "nothing has come, nothing is lost, place 0 is next, it doesn't run". */
    private static void playedAnew() {
        House house = film();
        house.play(0, 0, 4000, 0);
        stands("at first", house, 0, 0, 0, 0, 0, 0, -1);
        house.lose(0, -1);
        house.tick(0);
        house.tick(0);
        stands("behind two ticks", house, 0, 0, LENGTH, 2, 1, 0, 1);
        house.play(0, 0, 5, 5);
        stands("anew", house, 0, 0, 0, 0, 0, 0, -1);
        Check.badState("42: nothing was shown", () -> house.frame(0, 0, 0, 0));
        Check.due("38: speed and fill are new", house.tick(0), -1);
        stands("behind a tick", house, 0, 0, 5, 0, 1, 1, -1);
        house.seek(0, 3);
        house.tick(0);
        house.play(0, 0, 6, 12);
        stands("anew, once late, and sought", house, 0, 0, 0, 0, 0, 0, -1);
        Check.due("38: 6 bytes since it began", house.tick(0), -2);
        Check.due("38: 12 bytes since it began", house.tick(0), -1);
        Check.due("38: nothing is lost", house.tick(0), 0);
        Check.due("42: nothing is lost", house.frame(0, 0, 0, 0), 128);
    }

    /** "the next picture is SHOWN if it has COME: it, and all ahead of it in the order of coding .. wholly". */
    private static void shownWhenItHasCome() {
        House house = film();
        house.play(0, 0, 1, 0);
        int next = 0;
        int late = 0;
        for (int come = 1; come <= LENGTH; come++) {
            boolean there = come >= END[next];
            late += there ? 0 : 1;
            Check.due("38: with " + come + " bytes", house.tick(0), there ? next : -1);
            next += there ? 1 : 0;
            stands("with " + come + " bytes", house, 0, 0, come, next, 1, late, next - 1);
        }
        Check.due("41: all were shown in time", next, 5);
    }

    /** "else the tick is LATE": a tick in which it doesn't run is not. */
    private static void lateTicks() {
        House house = film();
        house.play(0, 0, 6, 12);
        int[] want = {-2, -1, 0, -1, 1, 2, 3, 4, -3, -3};
        int[] late = {0, 1, 1, 2, 2, 2, 2, 2, 2, 2};
        for (int i = 0; i < want.length; i++) {
            Check.due("38: tick " + i, house.tick(0), want[i]);
            Check.due("41: late behind tick " + i, house.player(0, 4), late[i]);
        }
    }

    /** "It runs from the tick on in which FILL bytes that came .. are there for the first time". */
    private static void fillIsThere() {
        int[] fills = {0, 1, 12, 13, 14, 36, 37};
        for (int fill : fills) {
            House house = film();
            house.play(0, 0, 1, fill);
            int from = Math.max(fill, 1);
            for (int come = 1; come < from; come++) {
                Check.due("38: " + come + " of " + fill, house.tick(0), -2);
            }
            Check.due("41: it doesn't run", house.player(0, 3), 0);
            Check.due("38: " + fill + " are there", house.tick(0), from >= END[0] ? 0 : -1);
            Check.due("41: it runs", house.player(0, 3), 1);
            Check.due("41: late", house.player(0, 4), from >= END[0] ? 0 : 1);
        }
    }

    /** "(or all that there are)". */
    private static void allThatThereAre() {
        int[] fills = {37, 38, 4000};
        for (int fill : fills) {
            House house = film();
            house.play(0, 0, 1, fill);
            for (int come = 1; come < LENGTH; come++) {
                Check.due("38: " + come + " of all", house.tick(0), -2);
            }
            for (int place = 0; place < 5; place++) {
                Check.due("38: all are there", house.tick(0), place);
            }
            Check.due("38: all have been shown", house.tick(0), -3);
        }
    }

    /** "so many bytes come as its SPEED says (..; not more than there are)". */
    private static void speeds() {
        int[] speeds = {1, 12, 13, 36, 37, 38, 4000};
        for (int speed : speeds) {
            House house = film();
            house.play(0, 0, speed, 4000);
            Check.due("38: speed " + speed, house.tick(0), speed >= LENGTH ? 0 : -2);
            Check.due("41: come", house.player(0, 1), Math.min(speed, LENGTH));
            house.tick(0);
            Check.due("41: come", house.player(0, 1), Math.min(2 * speed, LENGTH));
        }
    }

    /** "-3 all have been shown (looked at first". */
    private static void allHaveBeenShown() {
        House house = film();
        house.play(0, 0, 4000, 0);
        for (int place = 0; place < 5; place++) {
            Check.due("38: place", house.tick(0), place);
        }
        for (int i = 0; i < 3; i++) {
            Check.due("38: all have been shown", house.tick(0), -3);
            stands("all have been shown", house, 0, 0, LENGTH, 5, 1, 0, 4);
        }
        house.seek(0, 4);
        Check.due("38: again", house.tick(0), 4);
        Check.due("38: all have been shown again", house.tick(0), -3);
    }

    /** "bytes come in any case": the last place is shown here ahead of the last bytes. */
    private static void bytesComeInAnyCase() {
        House house = new House();
        Check.Bits skipped = Check.bits().code(0);
        int f = Check.film(house, Check.head(0, 8, 8, 25, 3), Check.picture(I, 0, 1, Check.bits().code(0).empty(6)),
            Check.picture(P, 2, 1, skipped), Check.picture(B, 1, 1, skipped));
        house.play(0, f, 3, 12);
        house.seek(0, 2);
        int[] want = {-2, -2, -2, 2, -3, -3, -3};
        int[] come = {10, 13, 16, 19, 22, 25, 25};
        for (int i = 0; i < want.length; i++) {
            Check.due("38: tick " + i, house.tick(0), want[i]);
            Check.due("41: come behind tick " + i, house.player(0, 1), come[i]);
        }
    }

    /** "SEEK to a place: what has come is what is ahead of its group in the film; .. it doesn't run". */
    private static void soughtPlaces() {
        for (int place = 0; place < 5; place++) {
            House house = film();
            house.play(0, 0, 1, 0);
            house.seek(0, place);
            stands("sought " + place, house, 0, 0, GROUP_AT[place], place, 0, 0, -1);
            for (int come = GROUP_AT[place] + 1; come < END[place]; come++) {
                Check.due("38: with " + come + " bytes", house.tick(0), -1);
            }
            Check.due("38: it has come", house.tick(0), place);
            Check.due("41: come", house.player(0, 1), END[place]);
            Check.due("41: next", house.player(0, 2), place + 1);
        }
    }

    /** "FILL bytes that came since it began, or sought last (or all that there are)". */
    private static void fillSinceSought() {
        int[] fills = {1, 5, 6, 7, 11, 12, 13, 4000};
        for (int fill : fills) {
            House house = film();
            house.play(0, 0, 1, fill);
            house.tick(0);
            house.seek(0, 3);
            int ticks = Math.min(fill, 12);
            for (int i = 1; i < ticks; i++) {
                Check.due("38: " + i + " of " + fill + " since", house.tick(0), -2);
            }
            Check.due("38: " + fill + " since", house.tick(0), ticks >= 6 ? 3 : -1);
            Check.due("41: it runs", house.player(0, 3), 1);
        }
    }

    private static void soughtWhileItRuns() {
        House house = film();
        house.play(0, 0, 20, 20);
        Check.due("38: it runs", house.tick(0), 0);
        house.seek(0, 0);
        stands("it doesn't run any more", house, 0, 0, 7, 0, 0, 0, 0);
        Check.due("38: 20 bytes since", house.tick(0), 0);
        house.play(0, 0, 19, 20);
        house.tick(0);
        Check.due("38: all are there", house.tick(0), 0);
        house.seek(0, 1);
        Check.due("38: 19 bytes since are less than 20", house.tick(0), -2);
        Check.due("38: all that there are", house.tick(0), 1);
    }

    /** "(.. what is LOST, how often it was LATE, what was shown latest stay)". */
    private static void seekKeeps() {
        House house = new House();
        int f = Check.film(house, Check.head(0, 8, 8, 25, 2), Check.picture(I, 0, 1, lit(0, 40)), Check.picture(P, 1, 1, lit(2, 9)));
        int end = house.coded(f, 1, 4);
        house.play(0, f, end - 1, 0);
        Check.due("38: late", house.tick(0), -1);
        house.lose(0, 2);
        Check.due("38: the first", house.tick(0), 0);
        house.seek(0, 1);
        stands("sought", house, 0, f, 7, 1, 0, 1, 0);
        Check.due("42: what was shown latest", house.frame(0, 0, 3, 3), 168);
        Check.due("38: the second is late", house.tick(0), -1);
        Check.due("38: the second", house.tick(0), 1);
        Check.due("42: it was lost still", house.frame(0, 0, 3, 3), 168);
        Check.due("41: late", house.player(0, 4), 2);
        house.lose(0, 0);
        house.seek(0, 1);
        house.tick(0);
        house.tick(0);
        Check.due("42: it isn't lost any more", house.frame(0, 0, 3, 3), house.look(f, 1, 0, 3, 3));
    }

    /** A group behind another is waited for from its own beginning on, whatever was sought. */
    private static void withoutSeek() {
        House house = film();
        house.play(0, 0, 18, 0);
        int[] want = {0, 1, 2, 3, 4, -3};
        for (int i = 0; i < want.length; i++) {
            Check.due("38: tick " + i, house.tick(0), want[i]);
        }
        house.play(0, 0, 1, 0);
        house.seek(0, 2);
        for (int come = 8; come < 19; come++) {
            house.tick(0);
        }
        Check.due("38: the P is there, the B ahead of it is passed over", house.tick(0), 2);
        for (int come = 20; come < 31; come++) {
            Check.due("38: the next group is not there", house.tick(0), -1);
        }
        Check.due("38: it is there", house.tick(0), 3);
    }

    /** Film f of I 168, P2 178, B1 between; then I3 98, P4 108. */
    private static House litFilm() {
        House house = new House();
        Check.film(house, Check.head(0, 8, 8, 25, 5), Check.picture(I, 0, 1, lit(0, 40)), Check.picture(P, 2, 1, forward(10)),
            Check.picture(B, 1, 1, Check.bits().code(0)), Check.picture(I, 3, 1, lit(0, -30)), Check.picture(P, 4, 1, forward(10)));
        return house;
    }

    private static Check.Bits forward(int more) {
        Check.Bits one = Check.bits().code(1).signed(0).signed(0);
        for (int block = 0; block < 4; block++) {
            one.code(1).code(0).signed(16 * more);
        }
        return one.empty(2);
    }

    private static void framesAre(String what, int mask, int... want) {
        House house = litFilm();
        house.play(0, 0, 4000, 0);
        house.lose(0, mask);
        for (int place = 0; place < 5; place++) {
            Check.due("38: lost ones come like others: " + what, house.tick(0), place);
            Check.due("42: place " + place + ": " + what, house.frame(0, 0, 4, 4), want[place]);
            Check.due("42: plane 1", house.frame(0, 1, 3, 3), 128);
        }
    }

    /** "(by a mask, bit k for the k-th in the order of coding)", "read as if they had no bits (RULE 1 at once)". */
    private static void lostBits() {
        framesAre("none", 0, 168, 173, 178, 98, 108);
        framesAre("the first", 1, 128, 133, 138, 98, 108);
        framesAre("the P", 2, 168, 168, 168, 98, 108);
        framesAre("the B, which is as the EARLIER one", 4, 168, 168, 178, 98, 108);
        framesAre("the I of the second group", 8, 168, 173, 178, 128, 138);
        framesAre("the last", 16, 168, 173, 178, 98, 98);
        framesAre("beyond the last", 32, 168, 173, 178, 98, 108);
        framesAre("bits that no picture has", -32, 168, 173, 178, 98, 108);
        framesAre("the highest bit", Integer.MIN_VALUE, 168, 173, 178, 98, 108);
        framesAre("all", -1, 128, 128, 128, 128, 128);
        framesAre("all but the first", -2, 168, 168, 168, 128, 128);
        House house = litFilm();
        house.play(0, 0, 4000, 0);
        house.lose(0, 1);
        house.tick(0);
        house.lose(0, 0);
        Check.due("42: what was shown stays as it was", house.frame(0, 0, 4, 4), 128);
        house.tick(0);
        Check.due("42: those that are lost just then", house.frame(0, 0, 4, 4), 173);
        Check.due("23: the film itself stays", house.look(0, 0, 0, 4, 4), 168);
        Check.due("20: nor has it spots", house.film(0, 7), 0);
    }

    /** WAVES: 128; RUNS: an I 128, a P as the latest anchor; the twelfth picture has bit 11. */
    private static void lostOfOthers() {
        House house = new House();
        for (int i = 0; i < 12; i++) {
            house.reel(house.blank(8, 8, 10 + i, 20, 30));
        }
        house.set(1, 12);
        int waves = house.make(1);
        int runs = house.make(2);
        house.play(0, waves, 4000, 0);
        house.play(1, runs, 4000, 0);
        house.lose(0, 1 << 11 | 1 << 1);
        house.lose(1, 1 << 11 | 1 << 1);
        for (int i = 0; i < 12; i++) {
            Check.due("38: WAVES", house.tick(0), i);
            Check.due("38: RUNS", house.tick(1), i);
            boolean lost = i == 1 || i == 11;
            Check.due("42: WAVES at " + i, house.frame(0, 0, 5, 5), lost ? 128 : 10 + i);
            Check.due("42: RUNS at " + i, house.frame(1, 0, 5, 5), lost ? 9 + i : 10 + i);
            Check.due("42: WAVES in plane 2 at " + i, house.frame(0, 2, 3, 3), lost ? 128 : 30);
        }
        house.lose(1, 1);
        house.seek(1, 0);
        Check.due("38: RUNS", house.tick(1), 0);
        Check.due("42: the I of RUNS", house.frame(1, 0, 5, 5), 128);
    }

    /** "What is shown is read anew from the beginning of its group (as if that were the first picture)". */
    private static void readAnew() {
        House house = new House();
        Check.Bits none = Check.bits();
        int f = Check.film(house, Check.head(0, 8, 8, 25, 4), Check.picture(I, 0, 1, lit(0, 40)), Check.picture(I, 1, 1, none),
            Check.picture(I, 3, 1, none), Check.picture(B, 2, 1, none));
        int[] film = {168, 168, 168, 168};
        int[] frames = {168, 128, 128, 128};
        house.play(0, f, 4000, 0);
        for (int place = 0; place < 4; place++) {
            Check.due("23: place " + place, house.look(f, place, 0, 4, 4), film[place]);
            Check.due("38: place " + place, house.tick(0), place);
            Check.due("42: place " + place, house.frame(0, 0, 4, 4), frames[place]);
        }
    }

    /** Broken pictures of all codings are mended from their SPOT on, as the film has them. */
    private static void brokenOnes() {
        House house = new House();
        Check.Bits first = Check.bits().code(0).code(63).eight(70).code(0).code(15).eight(71).code(0).code(15).eight(72);
        Check.Bits second = Check.bits().code(0).code(63).eight(90).code(0).code(3).eight(91);
        int runs = Check.film(house, Check.head(2, 8, 8, 25, 2), Check.picture(I, 0, 0, first), Check.picture(P, 1, 0, second));
        int waves = Check.film(house, Check.head(1, 8, 8, 25, 2), Check.picture(I, 0, 0, Check.bits().code(64).code(16).code(16)),
            Check.picture(I, 1, 0, Check.bits().code(64).code(17)));
        int blocks = Check.film(house, Check.head(0, 16, 8, 25, 2), Check.picture(I, 0, 1, lit(0, 9).code(0).empty(6)),
            Check.picture(P, 1, 1, lit(2, 50).code(5)));
        int[] spots = {68, 1, 1};
        for (int f = 0; f < 3; f++) {
            Check.due("21: spot", house.coded(f, 1, 7), spots[f]);
            house.play(f, f, 4000, 0);
            for (int place = 0; place < 2; place++) {
                Check.due("38: place", house.tick(f), place);
                for (int i = 0; i < 16; i += 3) {
                    for (int plane = 0; plane < 3; plane++) {
                        Check.due("42: film " + f + " place " + place + " plane " + plane,
                            house.frame(f, plane, i % 4, i / 4), house.look(f, place, plane, i % 4, i / 4));
                    }
                }
            }
        }
        Check.due("42: a part that is mended", house.frame(blocks, 0, 15, 7), 137);
        Check.due("42: a part that isn't", house.frame(blocks, 0, 7, 7), 178);
        Check.due("42: a plane that is mended", house.frame(waves, 1, 3, 3), 128);
        Check.due("42: a sample that is mended", house.frame(runs, 1, 0, 1), 71);
    }

    private static void fourPlayers() {
        House house = film();
        for (int y = 0; y < 4; y++) {
            house.play(y, 0, 10 * y + 9, 9 * y);
        }
        int[] first = {-1, 0, 0, 0};
        int[] come = {9, 19, 29, 37};
        for (int y = 0; y < 4; y++) {
            Check.due("38: player " + y, house.tick(y), first[y]);
        }
        house.seek(1, 4);
        for (int y = 0; y < 4; y++) {
            stands("player " + y, house, y, 0, y == 1 ? 25 : come[y], y == 0 ? 0 : y == 1 ? 4 : 1, y == 1 ? 0 : 1,
                y == 0 ? 1 : 0, first[y]);
        }
    }

    /** "IllegalStateException: also nothing was shown (without a film x and y aren't looked at)". */
    private static void nothingWasShown() {
        House house = film();
        house.play(0, 0, 1, 0);
        Check.badState("42: nothing was shown", () -> house.frame(0, 0, 7, 7));
        Check.badState("42: nothing was shown", () -> house.frame(0, 2, 3, 3));
        Check.noSuch("42: no such sample comes first", () -> house.frame(0, 0, 8, 7));
        Check.noSuch("42: no such sample comes first", () -> house.frame(0, 0, 7, 8));
        Check.noSuch("42: no such sample comes first", () -> house.frame(0, 2, 4, 3));
        Check.noSuch("42: no such plane comes first", () -> house.frame(0, 3, 0, 0));
        house.tick(0);
        Check.badState("42: a late tick shows nothing", () -> house.frame(0, 0, 7, 7));
        house.seek(0, 1);
        Check.badState("42: nor does seek()", () -> house.frame(0, 0, 7, 7));
        Check.badState("42: no film, x", () -> house.frame(1, 0, 8, 0));
        Check.badState("42: no film, y", () -> house.frame(1, 0, 0, -1));
        Check.noSuch("42: no film, plane", () -> house.frame(1, 3, 0, 0));
    }

    private static void onePicture() {
        House house = new House();
        house.reel(house.blank(8, 24, 9, 8, 7));
        int f = house.make(2);
        int all = house.film(f, 5);
        house.play(3, f, all - 1, 0);
        Check.due("38: all bytes but one", house.tick(3), -1);
        Check.due("38: all", house.tick(3), 0);
        Check.due("42: the last sample", house.frame(3, 0, 7, 23), 9);
        Check.due("42: the last sample of plane 2", house.frame(3, 2, 3, 11), 7);
        Check.due("38: it was the only one", house.tick(3), -3);
    }

    /** A film of more than 4000 bytes comes by 4000 in a tick, and FILL counts up to 4000. */
    private static void longFilm() {
        House house = new House();
        house.blank(24, 24, 128, 128, 128);
        for (int plane = 0; plane < 3; plane++) {
            house.noise(0, plane, 5L + plane, 120);
        }
        house.set(1, 1);
        for (int i = 0; i < 4; i++) {
            house.reel(0);
        }
        int f = house.make(0);
        int all = house.film(f, 5);
        Check.due("20: more than 4000 bytes", all > 4000 && all < 8000, true);
        house.play(0, f, 3999, 4000);
        Check.due("38: 3999 bytes", house.tick(0), -2);
        Check.due("38: 4000 and more", house.tick(0), 0);
        Check.due("41: not more than there are", house.player(0, 1), Math.min(all, 7998));
        house.play(0, f, 4000, 4000);
        Check.due("38: 4000 bytes", house.tick(0), 0);
        Check.due("41: come", house.player(0, 1), 4000);
        Check.due("42: what is shown", house.frame(0, 0, 23, 23), house.look(f, 0, 0, 23, 23));
        house.tick(0);
        Check.due("41: all", house.player(0, 1), all);
    }
}
