import java.util.Arrays;

/** Term 2 and promise 18: which byte of a film is WRONG, and where its groups begin. */
public final class HeadsTest {
    private static final int I = 0;
    private static final int P = 1;
    private static final int B = 2;
    private static final Check.Bits FLAT = Check.bits().code(0).empty(6);

    public static void main(String[] args) {
        everyByteOfTheHead();
        everyKind();
        everyPlaceOfAnchors();
        everyPlaceOfBs();
        everyStep();
        sizes();
        theEnd();
        behindTheLast();
        theFirstOfSeveral();
        noPlaceLeft();
        twelve();
        wholeTape();
        tapeAndNumbers();
        groups();
        Check.end("HeadsTest");
    }

    private static int read(int... tape) {
        House house = new House();
        Check.onTape(house, tape);
        int answer = house.read();
        Check.due("18: the tape is empty then", house.count(5), 0);
        Check.due("18: films", house.count(1), answer >= 0 ? 1 : 0);
        return answer;
    }

    private static void wrong(String what, int place, int... tape) {
        Check.due("18: " + what, read(tape), -1 - place);
    }

    private static void right(String what, int... tape) {
        Check.due("18: " + what, read(tape), 0);
    }

    private static void judged(String what, boolean fine, int place, int... tape) {
        Check.due("18: " + what, read(tape), fine ? 0 : -1 - place);
    }

    /** A film of pictures without bytes: kind and place of each. */
    private static int[] orders(int coding, int... pairs) {
        int[] all = Check.head(coding, 8, 8, 25, pairs.length / 2);
        for (int i = 0; i < pairs.length; i += 2) {
            all = Check.join(all, new int[] {pairs[i], pairs[i + 1], coding == 0 ? 1 : 0, 0, 0});
        }
        return all;
    }

    private static int at(int k, int i) {
        return 7 + 5 * k + i;
    }

    /** "77, 70; a CODING, 0 .. 2; width / 8; height / 8; a RATE, 1 .. 60; how many pictures, 1 .. 12". */
    private static void everyByteOfTheHead() {
        int[] good = Check.join(Check.head(0, 8, 8, 25, 1), Check.picture(I, 0, 4, FLAT));
        int[] least = {77, 70, 0, 1, 1, 1, 1};
        int[] most = {77, 70, 2, 3, 3, 60, 12};
        for (int i = 0; i < 7; i++) {
            for (int v = 0; v < 256; v++) {
                int[] tape = good.clone();
                tape[i] = v;
                int place = i;
                boolean within = v >= least[i] && v <= most[i];
                boolean fine = within;
                if (within && i == 2 && v > 0) {
                    fine = false;
                    place = 9;
                }
                if (within && i == 6 && v > 1) {
                    fine = false;
                    place = good.length;
                }
                judged("byte " + i + " is " + v, fine, place, tape);
            }
        }
        for (int side = 1; side <= 3; side++) {
            House house = new House();
            int f = Check.film(house, Check.head(0, 8 * side, 32 - 8 * side, 60, 1), Check.picture(I, 0, 4, FLAT));
            Check.due("20: width", house.film(f, 1), 8 * side);
            Check.due("20: height", house.film(f, 2), 32 - 8 * side);
        }
    }

    /** "The first one is I. WAVES have I alone, RUNS no B. A B needs two anchors ahead of it". */
    private static void everyKind() {
        for (int kind = 0; kind < 256; kind++) {
            judged("the first kind is " + kind, kind == I, at(0, 0), orders(0, kind, 0));
            judged("the first kind of WAVES is " + kind, kind == I, at(0, 0), orders(1, kind, 0));
            judged("the first kind of RUNS is " + kind, kind == I, at(0, 0), orders(2, kind, 0));
            judged("the second kind is " + kind, kind < B, at(1, 0), orders(0, I, 0, kind, 1));
            judged("the second kind of WAVES is " + kind, kind == I, at(1, 0), orders(1, I, 0, kind, 1));
            judged("the second kind of RUNS is " + kind, kind < B, at(1, 0), orders(2, I, 0, kind, 1));
            judged("a kind between is " + kind, kind == B, kind < B ? at(2, 1) : at(2, 0),
                orders(0, I, 0, P, 2, kind, 1, P, 3));
        }
        wrong("a B of RUNS that has a place", at(2, 0), orders(2, I, 0, P, 2, B, 1));
        wrong("a B of WAVES that has a place", at(2, 0), orders(1, I, 0, I, 2, B, 1));
        right("two I are anchors of a B", orders(0, I, 0, I, 2, B, 1));
        wrong("Bs are no anchors", at(1, 0), orders(0, I, 0, B, 1, B, 2));
    }

    /** "An anchor's PLACE is above those of all anchors ahead of it", "below how many pictures there are". */
    private static void everyPlaceOfAnchors() {
        for (int place = 0; place < 256; place++) {
            int[] one = orders(0, I, place);
            judged("the only place is " + place, place == 0, at(0, 1), one);
            int[] two = orders(0, I, 0, P, place);
            judged("the second place of two is " + place, place == 1, at(1, 1), two);
            int[] last = orders(0, I, 0, P, 1, P, place);
            judged("the last place of three is " + place, place == 2, at(2, 1), last);
            // Above the latest one all may be, but a gap leaves no place for a picture in the end.
            boolean gap = place == 3;
            boolean fine = place == 2;
            judged("the third place of four is " + place, fine, gap ? at(3, 0) : at(2, 1),
                orders(0, I, 0, P, 1, P, place, P, 3));
        }
        wrong("below the first one, though none has it", at(1, 1), orders(0, I, 1, P, 0, P, 2));
        wrong("below the latest one, though none has it", at(2, 1), orders(0, I, 0, P, 2, P, 1, P, 3));
        wrong("below the latest one, an I", at(2, 1), orders(0, I, 0, I, 2, I, 1, I, 3));
        wrong("below the latest one of RUNS", at(2, 1), orders(2, I, 0, P, 2, P, 1, P, 3));
        wrong("below the latest one of WAVES", at(2, 1), orders(1, I, 0, I, 2, I, 1, I, 3));
    }

    /** "its place is between those of the latest two". "No place comes twice." */
    private static void everyPlaceOfBs() {
        for (int place = 0; place < 256; place++) {
            judged("a B's place is " + place, place == 2 || place == 3, at(3, 1),
                orders(0, I, 0, P, 1, P, 4, B, place, B, place == 2 ? 3 : 2));
        }
        wrong("a B's place twice", at(3, 1), orders(0, I, 0, P, 3, B, 1, B, 1));
        wrong("a B's place twice, behind another", at(4, 1), orders(0, I, 0, P, 4, B, 1, B, 3, B, 1));
        right("Bs in any order", orders(0, I, 0, P, 4, B, 3, B, 1, B, 2));
        right("Bs of two pairs", orders(0, I, 0, P, 2, B, 1, P, 4, B, 3));
        wrong("a B of the pair ahead", at(3, 1), orders(0, I, 0, P, 2, P, 4, B, 1, B, 3));
    }

    /** "a STEP, 1 .. 31 of BLOCKS, else 0". */
    private static void everyStep() {
        for (int step = 0; step < 256; step++) {
            for (int coding = 0; coding < 3; coding++) {
                int[] tape = orders(coding, I, 0);
                tape[at(0, 2)] = step;
                boolean fine = coding == 0 ? step >= 1 && step <= 31 : step == 0;
                judged("a step of coding " + coding + " is " + step, fine, at(0, 2), tape);
            }
        }
    }

    /** "two bytes, .., the higher one first, at most 2000"; "of a number of two bytes above 2000 the first one". */
    private static void sizes() {
        int[] counts = {0, 1, 255, 256, 257, 1999, 2000};
        for (int count : counts) {
            House house = new House();
            int f = Check.film(house, Check.head(0, 8, 8, 25, 1), sized(count, count));
            Check.due("21: how many bytes follow", house.coded(f, 0, 3), count);
            Check.due("20: bytes", house.film(f, 5), 12 + count);
            wrong("one byte is lacking of " + count, 11 + count,
                Arrays.copyOf(Check.join(Check.head(0, 8, 8, 25, 1), sized(count, count)), 11 + count));
            wrong("one byte behind " + count, 12 + count,
                Check.join(Check.head(0, 8, 8, 25, 1), sized(count, count + 1)));
        }
        int[] above = {2001, 2002, 2047, 2048, 2304, 32768, 65535};
        for (int count : above) {
            wrong("the first of two bytes, " + count, 10, Check.join(Check.head(0, 8, 8, 25, 1), sized(count, 0)));
            wrong("the first of two bytes, " + count + ", with what follows", 10,
                Check.join(Check.head(0, 8, 8, 25, 1), sized(count, Math.min(count, 3000))));
        }
        int[] cut = Check.join(Check.head(0, 8, 8, 25, 1), new int[] {I, 0, 4, 7});
        wrong("2000 may be where the second byte is lacking", 11, cut);
        cut[10] = 8;
        wrong("2048 can't be, whatever the second byte were", 10, cut);
    }

    private static int[] sized(int count, int follow) {
        return Check.join(new int[] {I, 0, 4, count >> 8, count & 255}, new int[follow]);
    }

    /** "the end, where a byte is lacking": behind each byte of a film. */
    private static void theEnd() {
        int[] film = Check.join(Check.head(0, 8, 8, 25, 3), Check.picture(I, 0, 4, FLAT),
            Check.picture(P, 2, 4, Check.bits().code(0).raw("000000000000")), Check.picture(B, 1, 4, Check.bits().code(0)));
        right("the whole film", film);
        for (int n = 0; n < film.length; n++) {
            wrong("the end at " + n, n, Arrays.copyOf(film, n));
        }
        wrong("an empty tape", 0);
    }

    /** "Nothing is behind the last one": "a byte behind the last picture". */
    private static void behindTheLast() {
        int[] film = orders(0, I, 0, P, 1);
        for (int more = 1; more <= 9; more++) {
            wrong(more + " bytes behind", film.length, Arrays.copyOf(film, film.length + more));
        }
        wrong("a whole picture behind", film.length, Check.join(film, new int[] {P, 2, 1, 0, 0}));
    }

    /** "The first byte that can't be there". */
    private static void theFirstOfSeveral() {
        int[] all = new int[30];
        Arrays.fill(all, 255);
        int[] good = orders(0, I, 0, P, 1);
        for (int i = 0; i <= good.length; i++) {
            int[] tape = all.clone();
            System.arraycopy(good, 0, tape, 0, i);
            // A lower byte of 255 is fine by itself, but so many bytes aren't there.
            boolean lowerByte = i == at(0, 4) || i == at(1, 4);
            wrong("all bytes from " + i + " on are 255", lowerByte ? tape.length : i, tape);
        }
    }

    /** "A byte of a kind can't be there, too, if there is no place left for that". */
    private static void noPlaceLeft() {
        wrong("an anchor above the last place", at(2, 0), orders(0, I, 0, P, 2, P, 1));
        wrong("an I above the last place", at(2, 0), orders(0, I, 0, P, 2, I, 1));
        wrong("a P of RUNS above the last place", at(2, 0), orders(2, I, 0, P, 2, P, 1));
        wrong("an I of WAVES above the last place", at(2, 0), orders(1, I, 0, I, 2, I, 1));
        right("one place is left above", orders(0, I, 0, P, 1, P, 2));
        wrong("a B where none is between", at(2, 0), orders(0, I, 0, P, 1, B, 1, P, 2));
        right("one is between", orders(0, I, 0, P, 2, B, 1));
        wrong("a second B where one is between", at(3, 0), orders(0, I, 0, P, 2, B, 1, B, 1));
        right("a second B where two are between", orders(0, I, 0, P, 3, B, 1, B, 2));
        wrong("a third B where two are between", at(4, 0), orders(0, I, 0, P, 3, B, 1, B, 2, B, 1));
        wrong("places lost ahead are seen where none is left", at(1, 0), orders(0, I, 1, P, 0));
        wrong("places lost ahead are seen where none is left, be it B", at(1, 0), orders(0, I, 1, B, 0));
        wrong("places lost between are seen at the end", at(3, 0), orders(0, I, 0, P, 2, P, 3, P, 1));
        wrong("places lost between are seen at the end, be it B", at(3, 0), orders(0, I, 0, P, 2, P, 3, B, 1));
    }

    private static void twelve() {
        int[] anchors = new int[24];
        for (int k = 0; k < 12; k++) {
            anchors[2 * k] = k == 0 ? I : P;
            anchors[2 * k + 1] = k;
        }
        right("12 anchors", orders(0, anchors));
        right("ten Bs", orders(0, I, 0, I, 11, B, 10, B, 9, B, 8, B, 7, B, 6, B, 5, B, 4, B, 3, B, 2, B, 1));
        wrong("nine Bs and an anchor", at(11, 0),
            orders(0, I, 0, I, 11, B, 10, B, 9, B, 8, B, 7, B, 6, B, 5, B, 4, B, 3, B, 2, P, 1));
        int[] thirteen = orders(0, anchors);
        thirteen[6] = 13;
        wrong("13 pictures", 6, Check.join(thirteen, new int[] {P, 12, 1, 0, 0}));
    }

    /** A film of all 4000 bytes that the tape has. */
    private static void wholeTape() {
        House house = new House();
        int f = Check.film(house, Check.head(0, 8, 8, 25, 2), new int[] {I, 0, 4, 7, 208}, new int[2000],
            new int[] {P, 1, 4, 7, 191}, new int[1983]);
        Check.due("20: 4000 bytes", house.film(f, 5), 4000);
        Check.due("19: 4000 bytes", house.bytes(f), 4000);
        House lacking = new House();
        Check.onTape(lacking, Check.join(Check.head(0, 8, 8, 25, 2), new int[] {I, 0, 4, 7, 208}, new int[2000],
            new int[] {P, 1, 4, 7, 192}, new int[1983]));
        Check.due("18: 4001 bytes are never there", lacking.read(), -1 - 4000);
    }

    /** "The tape, which is empty then"; films that aren't taken have no number. */
    private static void tapeAndNumbers() {
        House house = new House();
        int[] good = orders(2, I, 0);
        for (int f = 0; f < 8; f++) {
            Check.onTape(house, 77, 71);
            Check.due("18: not taken", house.read(), -2);
            Check.due("18: empty then", house.tape(0), -1);
            Check.onTape(house, good);
            Check.due("18: its number", house.read(), f);
            Check.due("18: empty then", house.wipe(), 0);
        }
        Check.onTape(house, 77, 71);
        Check.badState("18: a ninth, though it can't be taken", () -> house.read());
        Check.due("18: the tape stays", house.wipe(), 2);
        House stale = new House();
        int[] large = Check.join(Check.head(0, 8, 8, 25, 1), new int[] {I, 0, 4, 7, 209});
        Check.onTape(stale, large);
        Check.due("18: 2001 bytes", stale.read(), -11);
        Check.onTape(stale, Arrays.copyOf(large, 11));
        Check.due("18: what was on the tape ahead is gone", stale.read(), -12);
    }

    private static void groupsAre(String what, int coding, int[] pairs, int... want) {
        House house = new House();
        int f = Check.film(house, orders(coding, pairs));
        int sum = 0;
        for (int k = 0; k < want.length; k++) {
            Check.due("21: a group begins at " + k + ": " + what, house.coded(f, k, 5), want[k]);
            sum += want[k];
        }
        Check.due("20: groups: " + what, house.film(f, 6), sum);
    }

    /** "A GROUP begins at an I behind which, in the order of coding, none comes whose place is below its own". */
    private static void groups() {
        groupsAre("one picture", 0, new int[] {I, 0}, 1);
        groupsAre("an I with a B behind it", 0, new int[] {I, 0, I, 2, B, 1}, 1, 0, 0);
        groupsAre("an I without", 0, new int[] {I, 0, P, 2, B, 1, I, 3}, 1, 0, 0, 1);
        groupsAre("a P begins none", 0, new int[] {I, 0, P, 1, P, 2}, 1, 0, 0);
        groupsAre("both in one film", 0, new int[] {I, 0, I, 2, B, 1, I, 3, P, 4, I, 6, B, 5}, 1, 0, 0, 1, 0, 0, 0);
        groupsAre("the B far behind", 0, new int[] {I, 0, I, 4, B, 3, B, 2, B, 1, I, 5}, 1, 0, 0, 0, 0, 1);
        groupsAre("WAVES", 1, new int[] {I, 0, I, 1, I, 2}, 1, 1, 1);
        groupsAre("RUNS", 2, new int[] {I, 0, P, 1, I, 2, P, 3}, 1, 0, 1, 0);
    }
}
