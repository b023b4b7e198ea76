/**
 * A house for moving pictures. The document (../shared/DOC.md) says what each call promises;
 * words such as PLACE, SPOT or KEPT are used here as its Terms have them.
 */
public final class PictureHouse {
    private static final int MOST_PICTURES = 60;
    private static final int MOST_TAPE = 4000;
    private static final int MOST_FILMS = 8;
    private static final int MOST_ROWS = 8;
    private static final int MOST_FILTERS = 8;
    private static final int PLAYERS = 4;
    private static final int MOST_SHOWN = 12;
    private static final int MOST_PARTS = 9;
    private static final int MOST_SAMPLES = 864;
    private static final int MOST_FOLLOWING = 2000;
    private static final int FILM_HEAD = 7;
    private static final int PICTURE_HEAD = 5;
    private static final int FACTS = 7;
    private static final int ENDLESS = 2147483647;

    private static final int BLOCKS = 0;
    private static final int WAVES = 1;
    private static final int RUNS = 2;
    private static final int KIND_I = 0;
    private static final int KIND_P = 1;
    private static final int KIND_B = 2;

    private static final int RATE = 0;
    private static final int GROUP = 1;
    private static final int BETWEEN = 2;
    private static final int REACH = 3;
    private static final int STEP = 4;
    private static final int SIZE = 5;
    private static final int FLOW = 6;
    private static final int PLAN = 7;
    private static final int MOST_STEP = 31;
    private static final int[] SETTING_LEAST = {1, 1, 0, 0, 1, 100, 50, 0};
    private static final int[] SETTING_MOST = {60, 12, 2, 8, 31, 20000, 10000, 1};

    private static final int RULE_END = 1;
    private static final int RULE_WAY = 2;
    private static final int RULE_VECTOR = 3;
    private static final int RULE_ROOM = 4;
    private static final int RULE_LEVEL = 5;
    private static final int RULE_TAIL = 6;
    private static final int RULE_CODE = 7;

    private final Picture[] pictures = new Picture[MOST_PICTURES];
    private int pictureCount = 0;
    private final byte[] tapeBytes = new byte[MOST_TAPE];
    private int tapeLength = 0;
    private final int[] settings = {25, 4, 0, 2, 4, 0, 1000, 0};
    private final Picture[] reelPictures = new Picture[MOST_SHOWN];
    private int reelCount = 0;
    private final Film[] films = new Film[MOST_FILMS];
    private int filmCount = 0;
    private final int[] rows = new int[3 * MOST_ROWS];
    private int rowCount = 0;
    private final Filter[] filters = new Filter[MOST_FILTERS];
    private int filterCount = 0;
    private final Player[] players = new Player[PLAYERS];
    private final Reader reader = new Reader();
    private final Maker maker = new Maker();

    public PictureHouse() {
        for (int y = 0; y < PLAYERS; y++) {
            players[y] = new Player();
        }
    }

    // ---- pictures

    public int blank(int width, int height, int a, int b, int c)
            throws IllegalArgumentException, IllegalStateException {
        if (!isSide(width) || !isSide(height)) {
            throw new IllegalArgumentException("no such size");
        }
        needSample(a);
        needSample(b);
        needSample(c);
        Picture made = freePicture();
        made.resize(width, height);
        made.flood(0, a);
        made.flood(1, b);
        made.flood(2, c);
        return pictureCount++;
    }

    public int fill(int p, int plane, int x, int y, int w, int h, int v)
            throws IndexOutOfBoundsException, IllegalArgumentException {
        Picture picture = pictureAt(p);
        needPlane(plane);
        needSample(v);
        if (w < 0 || h < 0) {
            throw new IllegalArgumentException("a side below 0");
        }
        // Sums of far away places and sides don't fit an int.
        long right = Math.min((long) x + w, picture.wide(plane));
        long below = Math.min((long) y + h, picture.high(plane));
        int base = picture.base(plane);
        int many = 0;
        for (int r = Math.max(y, 0); r < below; r++) {
            for (int q = Math.max(x, 0); q < right; q++) {
                picture.samples[base + r * picture.wide(plane) + q] = v;
                many++;
            }
        }
        return many;
    }

    public void noise(int p, int plane, long s, int amount)
            throws IndexOutOfBoundsException, IllegalArgumentException {
        Picture picture = pictureAt(p);
        needPlane(plane);
        if (amount < 0 || amount > 255) {
            throw new IllegalArgumentException("no such amount");
        }
        long state = s;
        int base = picture.base(plane);
        int end = base + picture.wide(plane) * picture.high(plane);
        for (int i = base; i < end; i++) {
            state = state * 6364136223846793005L + 1442695040888963407L;
            int more = (int) ((state >>> 33) % (2 * amount + 1)) - amount;
            picture.samples[i] = held(picture.samples[i] + more);
        }
    }

    public int shift(int p, int dx, int dy)
            throws IndexOutOfBoundsException, IllegalArgumentException, IllegalStateException {
        Picture from = pictureAt(p);
        if (dx < -1000 || dx > 1000 || dy < -1000 || dy > 1000) {
            throw new IllegalArgumentException("too far");
        }
        Picture made = freePicture();
        made.resize(from.width, from.height);
        for (int plane = 0; plane < 3; plane++) {
            int right = plane == 0 ? dx : dx / 2;
            int down = plane == 0 ? dy : dy / 2;
            int at = made.base(plane);
            for (int y = 0; y < made.high(plane); y++) {
                for (int x = 0; x < made.wide(plane); x++) {
                    made.samples[at++] = from.nearest(plane, x - right, y - down);
                }
            }
        }
        return pictureCount++;
    }

    public int put(int p, int plane, int x, int y, int v)
            throws IndexOutOfBoundsException, IllegalArgumentException {
        Picture picture = pictureAt(p);
        int i = placeOfSample(picture, plane, x, y);
        needSample(v);
        int was = picture.samples[i];
        picture.samples[i] = v;
        return was;
    }

    public int sample(int p, int plane, int x, int y)
            throws IndexOutOfBoundsException {
        Picture picture = pictureAt(p);
        return picture.samples[placeOfSample(picture, plane, x, y)];
    }

    public int size(int p, int what)
            throws IndexOutOfBoundsException, IllegalArgumentException {
        Picture picture = pictureAt(p);
        needWhat(what, 1);
        return what == 0 ? picture.width : picture.height;
    }

    public int drop(int n)
            throws IllegalArgumentException {
        if (n < 0) {
            throw new IllegalArgumentException("a number below 0");
        }
        pictureCount = Math.min(pictureCount, n);
        return pictureCount;
    }

    // ---- the tape

    public int feed(long eight, int n)
            throws IllegalArgumentException, IllegalStateException {
        if (n < 1 || n > 8) {
            throw new IllegalArgumentException("not 1 to 8 bytes");
        }
        if (tapeLength + n > MOST_TAPE) {
            throw new IllegalStateException("the tape is full");
        }
        for (int i = 0; i < n; i++) {
            tapeBytes[tapeLength++] = (byte) (eight >>> (8 * i));
        }
        return tapeLength;
    }

    public int alter(int i, int v)
            throws IndexOutOfBoundsException {
        if (i < 0 || i >= tapeLength) {
            throw new IndexOutOfBoundsException("no such byte");
        }
        int was = tapeBytes[i] & 255;
        tapeBytes[i] = (byte) v;
        return was;
    }

    public int tape(int i) {
        return i < 0 || i >= tapeLength ? -1 : tapeBytes[i] & 255;
    }

    public int wipe() {
        int had = tapeLength;
        tapeLength = 0;
        return had;
    }

    // ---- films

    public int set(int what, int v)
            throws IllegalArgumentException {
        needWhat(what, PLAN);
        boolean off = what == SIZE && v == 0;
        if (!off && (v < SETTING_LEAST[what] || v > SETTING_MOST[what])) {
            throw new IllegalArgumentException("beyond the setting");
        }
        int was = settings[what];
        settings[what] = v;
        return was;
    }

    public int reel(int p)
            throws IndexOutOfBoundsException, IllegalArgumentException, IllegalStateException {
        Picture picture = pictureAt(p);
        if (reelCount > 0 && !reelPictures[0].isAsLarge(picture)) {
            throw new IllegalArgumentException("of another size");
        }
        if (reelCount >= MOST_SHOWN) {
            throw new IllegalStateException("the reel is full");
        }
        if (reelPictures[reelCount] == null) {
            reelPictures[reelCount] = new Picture();
        }
        reelPictures[reelCount].become(picture);
        reelCount++;
        return reelCount;
    }

    public int unreel() {
        int had = reelCount;
        reelCount = 0;
        return had;
    }

    public int make(int coding)
            throws IllegalArgumentException, IllegalStateException {
        if (coding < BLOCKS || coding > RUNS || reelCount == 0) {
            throw new IllegalArgumentException("no such coding, or no reel");
        }
        Film made = freeFilm();
        maker.takeReel(reelPictures, reelCount, settings);
        if (coding == BLOCKS && settings[PLAN] == 1) {
            maker.planGroups(made);
        } else {
            maker.evenGroups(coding);
        }
        return maker.makeFilm(made, coding) ? landed(made) : -1;
    }

    public int read()
            throws IllegalStateException {
        Film made = freeFilm();
        int length = tapeLength;
        tapeLength = 0;
        made.start();
        made.append(tapeBytes, 0, length);
        return landed(made);
    }

    public int bytes(int f)
            throws IndexOutOfBoundsException {
        Film film = filmAt(f);
        if (film.length > MOST_TAPE) {
            return -1;
        }
        System.arraycopy(film.data, 0, tapeBytes, 0, film.length);
        tapeLength = film.length;
        return tapeLength;
    }

    public int film(int f, int what)
            throws IndexOutOfBoundsException, IllegalArgumentException {
        Film film = filmAt(f);
        needWhat(what, 7);
        switch (what) {
            case 0: return film.coding;
            case 1: return film.width;
            case 2: return film.height;
            case 3: return film.rate;
            case 4: return film.many;
            case 5: return film.length;
            case 6: return film.groupCount();
            default: return film.spotCount();
        }
    }

    public int coded(int f, int k, int what)
            throws IndexOutOfBoundsException, IllegalArgumentException {
        Film film = filmAt(f);
        needCoded(film, k);
        needWhat(what, 7);
        switch (what) {
            case 0: return film.kinds[k];
            case 1: return film.places[k];
            case 2: return film.steps[k];
            case 3: return film.sizes[k];
            case 4: return film.heads[k];
            case 5: return film.begins[k] ? 1 : 0;
            case 6: return film.rules[k];
            default: return film.spots[k];
        }
    }

    public int part(int f, int k, int m, int what)
            throws IndexOutOfBoundsException, IllegalArgumentException {
        Film film = filmAt(f);
        needCoded(film, k);
        if (film.coding != BLOCKS) {
            throw new IndexOutOfBoundsException("a film without parts");
        }
        needPart(film, m);
        needWhat(what, FACTS - 1);
        if (film.spots[k] >= 0 && m >= film.spots[k]) {
            return -1;
        }
        return film.facts[(k * MOST_PARTS + m) * FACTS + what];
    }

    public int look(int f, int place, int plane, int x, int y)
            throws IndexOutOfBoundsException {
        Picture picture = pictureShown(filmAt(f), place);
        return picture.samples[placeOfSample(picture, plane, x, y)];
    }

    public boolean mended(int f, int place, int plane, int x, int y)
            throws IndexOutOfBoundsException {
        Film film = filmAt(f);
        placeOfSample(pictureShown(film, place), plane, x, y);
        return film.isMended(film.order[place], plane, x, y);
    }

    public int shown(int f, int place)
            throws IndexOutOfBoundsException, IllegalStateException {
        Picture picture = pictureShown(filmAt(f), place);
        freePicture().become(picture);
        return pictureCount++;
    }

    public int buffer(int f, int k, int size, int flow)
            throws IndexOutOfBoundsException, IllegalArgumentException {
        Film film = filmAt(f);
        needCoded(film, k);
        boolean sizeFits = size >= SETTING_LEAST[SIZE] && size <= SETTING_MOST[SIZE];
        if (!sizeFits || flow < SETTING_LEAST[FLOW] || flow > SETTING_MOST[FLOW]) {
            throw new IllegalArgumentException("no such buffer");
        }
        int have = size / 2;
        for (int j = 0; j <= k; j++) {
            have = Math.min(size, have + flow) - 8 * film.sizes[j];
        }
        return have;
    }

    // ---- cuts

    public int row(int f, int from, int to)
            throws IndexOutOfBoundsException, IllegalArgumentException, IllegalStateException {
        Film film = filmAt(f);
        needPlace(film, from);
        needPlace(film, to);
        if (film.coding != BLOCKS || to < from) {
            throw new IllegalArgumentException("not to be cut so");
        }
        if (rowCount >= MOST_ROWS) {
            throw new IllegalStateException("the list is full");
        }
        rows[3 * rowCount] = f;
        rows[3 * rowCount + 1] = from;
        rows[3 * rowCount + 2] = to;
        rowCount++;
        return rowCount;
    }

    public int cut()
            throws IllegalStateException {
        Film made = freeFilm();
        int many = rowCount;
        rowCount = 0;
        if (!canBeCut(many)) {
            return -1;
        }
        made.start();
        maker.startCut(made, films[rows[0]], pictureSum(many), settings);
        for (int i = 0; i < many; i++) {
            if (!maker.addRow(made, films[rows[3 * i]], rows[3 * i + 1], rows[3 * i + 2])) {
                return -1;
            }
        }
        return landed(made);
    }

    public boolean kept(int f, int place)
            throws IndexOutOfBoundsException {
        Film film = filmAt(f);
        needPlace(film, place);
        return film.kept[place];
    }

    public int forget() {
        int had = filmCount;
        filmCount = 0;
        rowCount = 0;
        for (int y = 0; y < PLAYERS; y++) {
            players[y].film = null;
        }
        return had;
    }

    // ---- filters

    public int filter()
            throws IllegalStateException {
        if (filterCount >= MOST_FILTERS) {
            throw new IllegalStateException("there are 8 filters");
        }
        if (filters[filterCount] == null) {
            filters[filterCount] = new Filter();
        }
        int length = tapeLength;
        tapeLength = 0;
        int wrong = filters[filterCount].wrongPlace(tapeBytes, length);
        return wrong < 0 ? filterCount++ : -1 - wrong;
    }

    public int apply(int q, int p, int t)
            throws IndexOutOfBoundsException, IllegalStateException {
        if (q < 0 || q >= filterCount) {
            throw new IndexOutOfBoundsException("no such filter");
        }
        Picture from = pictureAt(p);
        Picture made = freePicture();
        made.resize(from.width, from.height);
        for (int plane = 0; plane < 3; plane++) {
            int at = made.base(plane);
            for (int y = 0; y < made.high(plane); y++) {
                for (int x = 0; x < made.wide(plane); x++) {
                    made.samples[at++] = held(filters[q].work(from, plane, x, y, t));
                }
            }
        }
        return pictureCount++;
    }

    // ---- seen

    public int distance(int p, int q, int what)
            throws IndexOutOfBoundsException, IllegalArgumentException {
        Picture one = pictureAt(p);
        Picture other = pictureAt(q);
        if (!one.isAsLarge(other)) {
            throw new IllegalArgumentException("of two sizes");
        }
        needWhat(what, 3);
        return one.farFrom(other, what);
    }

    public boolean first(int f, int place)
            throws IndexOutOfBoundsException {
        Film film = filmAt(f);
        Picture picture = pictureShown(film, place);
        return place == 0 || picture.isOtherShot(pictureShown(film, place - 1));
    }

    public int twin(int f, int place)
            throws IndexOutOfBoundsException {
        Film film = filmAt(f);
        Picture picture = pictureShown(film, place);
        for (int other = 0; other < place; other++) {
            if (picture.farFrom(pictureShown(film, other), 2) == 0) {
                return other;
            }
        }
        return -1;
    }

    public int movement(int f, int place, int m, int what)
            throws IndexOutOfBoundsException, IllegalArgumentException {
        Film film = filmAt(f);
        Picture picture = pictureShown(film, place);
        if (place == 0) {
            throw new IndexOutOfBoundsException("nothing is shown ahead");
        }
        needPart(film, m);
        needWhat(what, 2);
        return picture.movedFrom(pictureShown(film, place - 1), m, what);
    }

    // ---- players

    public void play(int y, int f, int speed, int fill)
            throws IndexOutOfBoundsException, IllegalArgumentException {
        Player player = playerAt(y);
        Film film = filmAt(f);
        if (speed < 1 || speed > 4000 || fill < 0 || fill > 4000) {
            throw new IllegalArgumentException("no such speed or fill");
        }
        player.begin(film, f, speed, fill);
    }

    public int tick(int y)
            throws IndexOutOfBoundsException, IllegalStateException {
        Player player = playingAt(y);
        int answer = player.goOn();
        if (answer >= 0) {
            int k = player.film.order[answer];
            player.showing.become(reader.readAnew(player.film, k, player.lost));
        }
        return answer;
    }

    public void lose(int y, int mask)
            throws IndexOutOfBoundsException, IllegalStateException {
        playingAt(y).lost = mask;
    }

    public void seek(int y, int place)
            throws IndexOutOfBoundsException, IllegalStateException {
        Player player = playingAt(y);
        needPlace(player.film, place);
        player.goTo(place);
    }

    public int player(int y, int what)
            throws IndexOutOfBoundsException, IllegalArgumentException, IllegalStateException {
        Player player = playerAt(y);
        needWhat(what, 5);
        needFilm(player);
        switch (what) {
            case 0: return player.filmNumber;
            case 1: return player.come;
            case 2: return player.next;
            case 3: return player.runs ? 1 : 0;
            case 4: return player.late;
            default: return player.latest;
        }
    }

    public int frame(int y, int plane, int x, int yy)
            throws IndexOutOfBoundsException, IllegalStateException {
        Player player = playerAt(y);
        needPlane(plane);
        needFilm(player);
        int i = placeOfSample(player.film.pictures[0], plane, x, yy);
        if (player.latest < 0) {
            throw new IllegalStateException("nothing was shown");
        }
        return player.showing.samples[i];
    }

    public int count(int what)
            throws IllegalArgumentException {
        needWhat(what, 5);
        switch (what) {
            case 0: return pictureCount;
            case 1: return filmCount;
            case 2: return filterCount;
            case 3: return reelCount;
            case 4: return rowCount;
            default: return tapeLength;
        }
    }

    // ---- what the calls share

    private static boolean isSide(int side) {
        return side == 8 || side == 16 || side == 24;
    }

    private static int held(int v) {
        return v < 0 ? 0 : v > 255 ? 255 : v;
    }

    private static void needSample(int v) {
        if (v < 0 || v > 255) {
            throw new IllegalArgumentException("no sample");
        }
    }

    private static void needWhat(int what, int most) {
        if (what < 0 || what > most) {
            throw new IllegalArgumentException("another what");
        }
    }

    private static void needPlane(int plane) {
        if (plane < 0 || plane > 2) {
            throw new IndexOutOfBoundsException("no such plane");
        }
    }

    private static void needCoded(Film film, int k) {
        if (k < 0 || k >= film.many) {
            throw new IndexOutOfBoundsException("no such picture");
        }
    }

    private static void needPlace(Film film, int place) {
        if (place < 0 || place >= film.many) {
            throw new IndexOutOfBoundsException("no such place");
        }
    }

    private static void needPart(Film film, int m) {
        if (m < 0 || m >= film.partCount()) {
            throw new IndexOutOfBoundsException("no such part");
        }
    }

    private static void needFilm(Player player) {
        if (player.film == null) {
            throw new IllegalStateException("it has no film");
        }
    }

    private static int placeOfSample(Picture picture, int plane, int x, int y) {
        needPlane(plane);
        int wide = picture.wide(plane);
        if (x < 0 || x >= wide || y < 0 || y >= picture.high(plane)) {
            throw new IndexOutOfBoundsException("no such sample");
        }
        return picture.base(plane) + y * wide + x;
    }

    private static Picture pictureShown(Film film, int place) {
        needPlace(film, place);
        return film.pictures[film.order[place]];
    }

    private Picture pictureAt(int p) {
        if (p < 0 || p >= pictureCount) {
            throw new IndexOutOfBoundsException("no such picture");
        }
        return pictures[p];
    }

    /** The next number's picture; it counts only when its caller counts it. */
    private Picture freePicture() {
        if (pictureCount >= MOST_PICTURES) {
            throw new IllegalStateException("there are 60 pictures");
        }
        if (pictures[pictureCount] == null) {
            pictures[pictureCount] = new Picture();
        }
        return pictures[pictureCount];
    }

    private Film filmAt(int f) {
        if (f < 0 || f >= filmCount) {
            throw new IndexOutOfBoundsException("no such film");
        }
        return films[f];
    }

    /** The next number's film; it counts only when it has landed. */
    private Film freeFilm() {
        if (filmCount >= MOST_FILMS) {
            throw new IllegalStateException("there are 8 films");
        }
        if (films[filmCount] == null) {
            films[filmCount] = new Film();
        }
        return films[filmCount];
    }

    /**
     * The film's number, or -1 less the place that is wrong. A film that was made is read like
     * any other, so that both ways come to the same.
     */
    private int landed(Film made) {
        int wrong = made.wrongPlace();
        if (wrong >= 0) {
            return -1 - wrong;
        }
        made.markGroups();
        made.openPictures(made.width, made.height, 0, made.many);
        for (int k = 0; k < made.many; k++) {
            reader.readPicture(made, made, k, 0, false);
        }
        return filmCount++;
    }

    private int pictureSum(int many) {
        int sum = 0;
        for (int i = 0; i < many; i++) {
            sum += rows[3 * i + 2] - rows[3 * i + 1] + 1;
        }
        return sum;
    }

    private boolean canBeCut(int many) {
        if (many == 0 || pictureSum(many) > MOST_SHOWN) {
            return false;
        }
        Film lead = films[rows[0]];
        for (int i = 1; i < many; i++) {
            Film film = films[rows[3 * i]];
            if (film.width != lead.width || film.height != lead.height) {
                return false;
            }
        }
        return true;
    }

    private Player playerAt(int y) {
        if (y < 0 || y >= PLAYERS) {
            throw new IndexOutOfBoundsException("no such player");
        }
        return players[y];
    }

    private Player playingAt(int y) {
        Player player = playerAt(y);
        needFilm(player);
        return player;
    }

    /** Three planes, one behind the other, in a row that is long enough for any size. */
    private static final class Picture {
        int width = 8;
        int height = 8;
        final int[] samples = new int[MOST_SAMPLES];

        void resize(int wide, int high) {
            width = wide;
            height = high;
        }

        int wide(int plane) {
            return plane == 0 ? width : width / 2;
        }

        int high(int plane) {
            return plane == 0 ? height : height / 2;
        }

        int base(int plane) {
            int all = width * height;
            return plane == 0 ? 0 : plane == 1 ? all : all + all / 4;
        }

        int total() {
            return width * height * 3 / 2;
        }

        boolean isAsLarge(Picture other) {
            return width == other.width && height == other.height;
        }

        void flood(int plane, int v) {
            int base = base(plane);
            int end = base + wide(plane) * high(plane);
            for (int i = base; i < end; i++) {
                samples[i] = v;
            }
        }

        void become(Picture other) {
            resize(other.width, other.height);
            System.arraycopy(other.samples, 0, samples, 0, total());
        }

        /** Longs, for a filter may ask for samples further away than an int tells. */
        int nearest(int plane, long x, long y) {
            int wide = wide(plane);
            int high = high(plane);
            int column = x < 0 ? 0 : x >= wide ? wide - 1 : (int) x;
            int line = y < 0 ? 0 : y >= high ? high - 1 : (int) y;
            return samples[base(plane) + line * wide + column];
        }

        int partOf(int plane, int x, int y) {
            int side = plane == 0 ? 8 : 4;
            return (y / side) * (width / 8) + x / side;
        }

        int farFrom(Picture other, int what) {
            int end = what == 3 ? width * height : total();
            int far = 0;
            for (int i = 0; i < end; i++) {
                int d = Math.abs(samples[i] - other.samples[i]);
                switch (what) {
                    case 0: far += d; break;
                    case 1: far += d * d; break;
                    case 2: far += d == 0 ? 0 : 1; break;
                    default: far = Math.max(far, d); break;
                }
            }
            return far;
        }

        boolean isOtherShot(Picture before) {
            int all = width * height;
            int[] more = new int[16];
            for (int i = 0; i < all; i++) {
                more[samples[i] >> 4 & 15]++;
                more[before.samples[i] >> 4 & 15]--;
            }
            int differ = 0;
            for (int range = 0; range < 16; range++) {
                differ += Math.abs(more[range]);
            }
            return differ > all;
        }

        int movedFrom(Picture before, int m, int what) {
            int bestX = 0;
            int bestY = 0;
            int least = partFarFrom(before, m, 0, 0, ENDLESS);
            for (int y = -4; y <= 4; y++) {
                for (int x = -4; x <= 4; x++) {
                    int sum = partFarFrom(before, m, x, y, least);
                    int way = Math.abs(x) + Math.abs(y);
                    int bestWay = Math.abs(bestX) + Math.abs(bestY);
                    if (sum < least || (sum == least && way < bestWay)) {
                        least = sum;
                        bestX = x;
                        bestY = y;
                    }
                }
            }
            return what == 0 ? bestX : what == 1 ? bestY : least;
        }

        /** What is above enough need not be summed up to its end. */
        private int partFarFrom(Picture before, int m, int dx, int dy, int enough) {
            int across = width / 8;
            int left = m % across * 8;
            int top = m / across * 8;
            int sum = 0;
            for (int y = top; y < top + 8 && sum <= enough; y++) {
                for (int x = left; x < left + 8; x++) {
                    sum += Math.abs(samples[y * width + x] - before.nearest(0, x + dx, y + dy));
                }
            }
            return sum;
        }
    }

    /** Bits of a row of bytes, to be read or to be written. */
    private static final class Bits {
        private static final int MOST_WRITTEN = 4000;
        byte[] data = null;
        int at = 0;
        int end = 0;
        int fault = 0;

        void open(byte[] bytes, int from, int length) {
            data = bytes;
            at = 8 * from;
            end = 8 * (from + length);
            fault = 0;
        }

        /** The number of the next code; -1 with a fault. */
        int code() {
            int zeros = 0;
            while (at < end && zeros < 15 && (data[at >> 3] >> (7 - (at & 7)) & 1) == 0) {
                zeros++;
                at++;
            }
            if (zeros == 15) {
                fault = RULE_CODE;
                return -1;
            }
            return digits(zeros + 1) - 1;
        }

        /** The next byte's worth of bits; below 0 with a fault. */
        int eight() {
            return digits(8);
        }

        private int digits(int many) {
            if (end - at < many) {
                fault = RULE_END;
                return -1;
            }
            int v = 0;
            for (int i = 0; i < many; i++) {
                v = 2 * v + (data[at >> 3] >> (7 - (at & 7)) & 1);
                at++;
            }
            return v;
        }

        boolean endsAsTold() {
            int left = end - at;
            return left == 0 || (left < 8 && digits(left) == 0);
        }

        void startWriting() {
            if (data == null) {
                data = new byte[MOST_WRITTEN];
            }
            at = 0;
        }

        /** Without bytes what is written is counted alone. */
        void startCounting() {
            data = null;
            at = 0;
        }

        void write(int v, int many) {
            if (data == null) {
                at += many;
                return;
            }
            for (int i = many - 1; i >= 0 && at < 8 * MOST_WRITTEN; i--) {
                int bit = v >> i & 1;
                int shift = 7 - (at & 7);
                int kept = shift == 7 ? 0 : data[at >> 3];
                data[at >> 3] = (byte) (kept | bit << shift);
                at++;
            }
        }

        void writeCode(int v) {
            write(v + 1, codeLength(v));
        }

        int byteCount() {
            return (at + 7) / 8;
        }

        static int codeLength(int v) {
            int digits = 1;
            while (digits < 30 && (v + 1) >> digits > 0) {
                digits++;
            }
            return 2 * digits - 1;
        }

        static int codeOfSigned(int v) {
            return v > 0 ? 2 * v - 1 : -2 * v;
        }

        static int signedLength(int v) {
            return codeLength(codeOfSigned(v));
        }

        static int signedOfCode(int code) {
            return (code & 1) == 1 ? (code + 1) / 2 : -(code / 2);
        }
    }

    /** The bytes of a film, what its heads tell, and what came out when it was read. */
    private static final class Film {
        private static final int[] HEAD_LEAST = {77, 70, 0, 1, 1, 1, 1};
        private static final int[] HEAD_MOST = {77, 70, 2, 3, 3, 60, 12};
        private static final int MOST_BYTES = FILM_HEAD + MOST_SHOWN * (PICTURE_HEAD + MOST_FOLLOWING);
        int coding = 0;
        int width = 8;
        int height = 8;
        int rate = 1;
        int many = 0;
        byte[] data = null;
        int length = 0;
        final int[] kinds = new int[MOST_SHOWN];
        final int[] places = new int[MOST_SHOWN];
        final int[] steps = new int[MOST_SHOWN];
        final int[] sizes = new int[MOST_SHOWN];
        final int[] heads = new int[MOST_SHOWN];
        final int[] order = new int[MOST_SHOWN];
        final boolean[] begins = new boolean[MOST_SHOWN];
        final boolean[] kept = new boolean[MOST_SHOWN];
        final Picture[] pictures = new Picture[MOST_SHOWN];
        final int[] rules = new int[MOST_SHOWN];
        final int[] spots = new int[MOST_SHOWN];
        final int[] facts = new int[MOST_SHOWN * MOST_PARTS * FACTS];

        /** No bytes yet, and nothing that stayed from a film that was forgotten. */
        void start() {
            length = 0;
            for (int i = 0; i < MOST_SHOWN; i++) {
                kept[i] = false;
            }
        }

        void append(byte[] from, int start, int count) {
            makeRoom(length + count);
            if (length + count <= data.length) {
                System.arraycopy(from, start, data, length, count);
                length += count;
            }
        }

        void appendByte(int v) {
            makeRoom(length + 1);
            if (length < data.length) {
                data[length++] = (byte) v;
            }
        }

        /** Most films are short, and rows that are thrown away are never given back. */
        private void makeRoom(int count) {
            if (data != null && count <= data.length) {
                return;
            }
            byte[] larger = new byte[count <= MOST_TAPE ? MOST_TAPE : MOST_BYTES];
            if (data != null) {
                System.arraycopy(data, 0, larger, 0, length);
            }
            data = larger;
        }

        void appendHead(int newCoding, Picture like, int newRate, int newMany) {
            appendByte(HEAD_LEAST[0]);
            appendByte(HEAD_LEAST[1]);
            appendByte(newCoding);
            appendByte(like.width / 8);
            appendByte(like.height / 8);
            appendByte(newRate);
            appendByte(newMany);
        }

        void appendPicture(int k, int step, byte[] from, int start, int count) {
            appendByte(kinds[k]);
            appendByte(places[k]);
            appendByte(step);
            appendByte(count >> 8);
            appendByte(count);
            append(from, start, count);
        }

        void openPictures(int wide, int high, int from, int to) {
            for (int k = from; k < to && k < MOST_SHOWN; k++) {
                if (pictures[k] == null) {
                    pictures[k] = new Picture();
                }
                pictures[k].resize(wide, high);
            }
        }

        /** The place of the first byte that can't be there; -1 if the bytes are a film. */
        int wrongPlace() {
            for (int i = 0; i < FILM_HEAD; i++) {
                if (i >= length) {
                    return length;
                }
                if (byteAt(i) < HEAD_LEAST[i] || byteAt(i) > HEAD_MOST[i]) {
                    return i;
                }
            }
            coding = byteAt(2);
            width = 8 * byteAt(3);
            height = 8 * byteAt(4);
            rate = byteAt(5);
            many = byteAt(6);
            for (int place = 0; place < MOST_SHOWN; place++) {
                order[place] = -1;
            }
            int at = FILM_HEAD;
            for (int k = 0; k < many; k++) {
                int wrong = wrongInPicture(k, at);
                if (wrong >= 0) {
                    return wrong;
                }
                at += PICTURE_HEAD + sizes[k];
            }
            return at < length ? at : -1;
        }

        private int byteAt(int i) {
            return data[i] & 255;
        }

        private int wrongInPicture(int k, int at) {
            heads[k] = at;
            if (at >= length) {
                return length;
            }
            kinds[k] = byteAt(at);
            if (!kindFits(k)) {
                return at;
            }
            if (at + 1 >= length) {
                return length;
            }
            places[k] = byteAt(at + 1);
            if (!placeFits(k)) {
                return at + 1;
            }
            order[places[k]] = k;
            if (at + 2 >= length) {
                return length;
            }
            steps[k] = byteAt(at + 2);
            if (coding == BLOCKS ? steps[k] < 1 || steps[k] > MOST_STEP : steps[k] != 0) {
                return at + 2;
            }
            return wrongInSize(k, at + 3);
        }

        private int wrongInSize(int k, int at) {
            if (at >= length) {
                return length;
            }
            // Such a first byte is above 2000 whatever comes behind it, be it the end.
            if (byteAt(at) > MOST_FOLLOWING >> 8) {
                return at;
            }
            if (at + 1 >= length) {
                return length;
            }
            sizes[k] = 256 * byteAt(at) + byteAt(at + 1);
            if (sizes[k] > MOST_FOLLOWING) {
                return at;
            }
            return at + 2 + sizes[k] > length ? length : -1;
        }

        private boolean kindFits(int k) {
            int kind = kinds[k];
            if (kind > KIND_B || (k == 0 && kind != KIND_I)) {
                return false;
            }
            if ((coding == WAVES && kind != KIND_I) || (coding == RUNS && kind == KIND_B)) {
                return false;
            }
            int later = anchorAhead(k, 0);
            if (kind != KIND_B) {
                return later < 0 || places[later] < many - 1;
            }
            int earlier = anchorAhead(later, 0);
            if (earlier < 0) {
                return false;
            }
            boolean left = false;
            for (int place = places[earlier] + 1; place < places[later]; place++) {
                left = left || order[place] < 0;
            }
            return left;
        }

        private boolean placeFits(int k) {
            int place = places[k];
            if (place >= many || order[place] >= 0) {
                return false;
            }
            int later = anchorAhead(k, 0);
            if (kinds[k] != KIND_B) {
                return later < 0 || place > places[later];
            }
            int earlier = anchorAhead(later, 0);
            return earlier >= 0 && place > places[earlier] && place < places[later];
        }

        /** The latest anchor ahead of the k-th picture, none ahead of from; -1 without one. */
        int anchorAhead(int k, int from) {
            for (int j = k - 1; j >= from; j--) {
                if (kinds[j] != KIND_B) {
                    return j;
                }
            }
            return -1;
        }

        void markGroups() {
            for (int k = 0; k < many; k++) {
                begins[k] = kinds[k] == KIND_I;
                for (int j = k + 1; j < many; j++) {
                    begins[k] = begins[k] && places[j] > places[k];
                }
            }
        }

        int groupStart(int k) {
            for (int j = k; j > 0; j--) {
                if (begins[j]) {
                    return j;
                }
            }
            return 0;
        }

        int groupEnd(int start) {
            for (int j = start + 1; j < many; j++) {
                if (begins[j]) {
                    return j;
                }
            }
            return many;
        }

        int groupCount() {
            int sum = 0;
            for (int k = 0; k < many; k++) {
                sum += begins[k] ? 1 : 0;
            }
            return sum;
        }

        int spotCount() {
            int sum = 0;
            for (int k = 0; k < many; k++) {
                sum += spots[k] >= 0 ? 1 : 0;
            }
            return sum;
        }

        int partCount() {
            return (width / 8) * (height / 8);
        }

        int endOf(int k) {
            return heads[k] + PICTURE_HEAD + sizes[k];
        }

        boolean isMended(int k, int plane, int x, int y) {
            int spot = spots[k];
            if (spot < 0) {
                return false;
            }
            Picture picture = pictures[k];
            switch (coding) {
                case BLOCKS: return picture.partOf(plane, x, y) >= spot;
                case WAVES: return plane >= spot;
                default: return picture.base(plane) + y * picture.wide(plane) + x >= spot;
            }
        }
    }

    /** One part of a picture of BLOCKS: what is foretold of it, its levels, and what they make. */
    private static final class Parts {
        static final int SKIPPED = 0;
        static final int FORWARD = 1;
        static final int BACKWARD = 2;
        static final int BOTH = 3;
        static final int MEAN = 4;
        static final int LEFT = 5;
        static final int SAMPLES = 96;
        static final int[] SCAN = {0, 1, 4, 8, 5, 2, 3, 6, 9, 12, 13, 10, 7, 11, 14, 15};
        private static final int[] PLANE_BASE = {0, 64, 80};
        int kind = 0;
        int step = 1;
        Picture picture = null;
        Picture behind = null;
        Picture ahead = null;
        int across = 0;
        int down = 0;
        final int[] foretold = new int[SAMPLES];
        final int[] other = new int[SAMPLES];
        final int[] made = new int[SAMPLES];
        final int[] levels = new int[SAMPLES];
        final int[] vector = new int[4];
        final int[] guess = new int[4];
        private final int[] square = new int[16];
        private final int[] columns = new int[16];
        private final int[] lines = new int[16];

        void openPicture(Film heads, Film into, int k, int from) {
            kind = heads.kinds[k];
            picture = into.pictures[k];
            int later = heads.anchorAhead(k, from);
            int earlier = heads.anchorAhead(later, from);
            int reference = kind == KIND_B ? earlier : later;
            behind = reference < 0 ? null : into.pictures[reference];
            ahead = kind == KIND_B && later >= 0 ? into.pictures[later] : null;
        }

        void goTo(int m) {
            int wide = picture.width / 8;
            across = m % wide;
            down = m / wide;
            for (int i = 0; i < 4; i++) {
                guess[i] = across == 0 ? 0 : vector[i];
            }
        }

        int wayCount() {
            return kind == KIND_I ? 3 : kind == KIND_P ? 5 : 7;
        }

        /** One number for a way whatever the kind: that which it has in B. */
        int modeOf(int way) {
            if (kind == KIND_B) {
                return way;
            }
            return kind == KIND_I ? way + MEAN : way < 2 ? way : way + 2;
        }

        /** Whether x or y of a vector (0, 1 forward, 2, 3 backward) is told in the bits. */
        static boolean tells(int mode, int i) {
            return mode == BOTH || mode == (i < 2 ? FORWARD : BACKWARD);
        }

        /** A vector that a part hasn't got is 0, which is also what its neighbour is to guess. */
        void takeVectors(int mode, int[] found) {
            for (int i = 0; i < 4; i++) {
                boolean guessed = mode == SKIPPED && kind == KIND_P && i < 2;
                vector[i] = tells(mode, i) ? found[i] : guessed ? guess[i] : 0;
            }
        }

        void foretell(int mode) {
            boolean fromBehind = mode == FORWARD || mode == BOTH || mode == SKIPPED;
            boolean fromAhead = mode == BACKWARD || mode == BOTH || (mode == SKIPPED && kind == KIND_B);
            for (int plane = 0; plane < 3; plane++) {
                if (mode >= MEAN) {
                    spread(mode, plane);
                }
                if (fromBehind) {
                    fetch(behind, plane, 0, foretold);
                }
                if (fromAhead) {
                    fetch(ahead, plane, 2, fromBehind ? other : foretold);
                }
            }
            if (fromBehind && fromAhead) {
                for (int i = 0; i < SAMPLES; i++) {
                    foretold[i] = (foretold[i] + other[i] + 1) / 2;
                }
            }
        }

        private void spread(int mode, int plane) {
            int side = plane == 0 ? 8 : 4;
            int wide = picture.wide(plane);
            int corner = picture.base(plane) + down * side * wide + across * side;
            int mean = mode == MEAN ? mean(side, wide, corner) : 128;
            int at = PLANE_BASE[plane];
            for (int r = 0; r < side; r++) {
                for (int c = 0; c < side; c++) {
                    int v = mean;
                    if (mode == LEFT && across > 0) {
                        v = picture.samples[corner + r * wide - 1];
                    }
                    if (mode > LEFT && down > 0) {
                        v = picture.samples[corner - wide + c];
                    }
                    foretold[at++] = v;
                }
            }
        }

        private int mean(int side, int wide, int corner) {
            int sum = 0;
            int many = 0;
            for (int i = 0; i < side; i++) {
                if (down > 0) {
                    sum += picture.samples[corner - wide + i];
                    many++;
                }
                if (across > 0) {
                    sum += picture.samples[corner + i * wide - 1];
                    many++;
                }
            }
            return many == 0 ? 128 : (sum + many / 2) / many;
        }

        /** The part as another picture has it at the vector that begins at which. */
        private void fetch(Picture from, int plane, int which, int[] into) {
            if (from == null) {
                return;
            }
            int side = plane == 0 ? 8 : 4;
            int x = plane == 0 ? vector[which] : vector[which] / 2;
            int y = plane == 0 ? vector[which + 1] : vector[which + 1] / 2;
            int wide = from.wide(plane);
            lineUp(columns, across * side, side, x, wide, 1, 0);
            lineUp(lines, down * side, side, y, from.high(plane), wide, from.base(plane));
            for (int r = 0; r < side; r++) {
                fetchRow(from.samples, (x & 1) + (y & 1), r, side, into, PLANE_BASE[plane] + r * side);
            }
        }

        /** How far plane 0 of the part is from what is wanted; above enough it may be less told. */
        int farAt(Picture from, int which, int[] wanted, int enough) {
            if (from == null) {
                return 0;
            }
            int x = vector[which];
            int y = vector[which + 1];
            lineUp(columns, across * 8, 8, x, from.width, 1, 0);
            lineUp(lines, down * 8, 8, y, from.height, from.width, 0);
            int sum = 0;
            for (int r = 0; r < 8 && sum < enough; r++) {
                fetchRow(from.samples, (x & 1) + (y & 1), r, 8, other, 8 * r);
                for (int i = 8 * r; i < 8 * r + 8; i++) {
                    sum += Math.abs(wanted[i] - other[i]);
                }
            }
            return sum;
        }

        /** Where the nearer samples are, and (from 8 on) those half a sample further. */
        private static void lineUp(int[] line, int start, int side, int halves, int size, int stride, int base) {
            int whole = start + (halves >> 1);
            for (int i = 0; i < side; i++) {
                int near = whole + i;
                int far = near + (halves & 1);
                line[i] = base + stride * (near < 0 ? 0 : near >= size ? size - 1 : near);
                line[8 + i] = base + stride * (far < 0 ? 0 : far >= size ? size - 1 : far);
            }
        }

        private void fetchRow(int[] samples, int halves, int r, int side, int[] into, int at) {
            int upper = lines[r];
            int lower = lines[8 + r];
            for (int c = 0; c < side; c++) {
                int v = samples[upper + columns[c]];
                if (halves == 1) {
                    v = (v + samples[lower + columns[8 + c]] + 1) / 2;
                } else if (halves == 2) {
                    v += samples[upper + columns[8 + c]] + samples[lower + columns[c]];
                    v = (v + samples[lower + columns[8 + c]] + 2) / 4;
                }
                into[at + c] = v;
            }
        }

        /** Where sample i of a block (4 rows of 4) stands in the rows of the part. */
        private static int placeInPart(int block, int i) {
            if (block >= 4) {
                return 16 * block + i;
            }
            return ((block >> 1) * 4 + (i >> 2)) * 8 + (block & 1) * 4 + (i & 3);
        }

        /** H q H, of which H is its own mirror. */
        private static void turn(int[] q) {
            for (int i = 0; i < 16; i += 4) {
                turnFour(q, i, 1);
            }
            for (int i = 0; i < 4; i++) {
                turnFour(q, i, 4);
            }
        }

        private static void turnFour(int[] q, int at, int stride) {
            int a = q[at];
            int b = q[at + stride];
            int c = q[at + 2 * stride];
            int d = q[at + 3 * stride];
            q[at] = a + b + c + d;
            q[at + stride] = a + b - c - d;
            q[at + 2 * stride] = a - b - c + d;
            q[at + 3 * stride] = a - b + c - d;
        }

        int levelCount(int block) {
            int many = 0;
            for (int i = 16 * block; i < 16 * block + 16; i++) {
                many += levels[i] != 0 ? 1 : 0;
            }
            return many;
        }

        void makeForetold() {
            for (int i = 0; i < SAMPLES; i++) {
                made[i] = foretold[i];
            }
        }

        void addRest(int block) {
            for (int i = 0; i < 16; i++) {
                square[SCAN[i]] = levels[16 * block + i] * step;
            }
            turn(square);
            for (int i = 0; i < 16; i++) {
                int at = placeInPart(block, i);
                made[at] = held(foretold[at] + ((square[i] + 8) >> 4));
            }
        }

        /** The levels of what lies between the wanted samples and those foretold. */
        void takeLevels(int block, int[] wanted) {
            for (int i = 0; i < 16; i++) {
                int at = placeInPart(block, i);
                square[i] = wanted[at] - foretold[at];
            }
            turn(square);
            int divisor = Math.max(step, 1);
            for (int i = 0; i < 16; i++) {
                int c = square[SCAN[i]];
                int level = Math.min(4095, (Math.abs(c) + step / 2) / divisor);
                levels[16 * block + i] = c < 0 ? -level : level;
            }
        }

        /** Hands this part's samples of a picture to a row, or back. */
        void exchange(Picture with, int[] line, boolean back) {
            for (int plane = 0; plane < 3; plane++) {
                int side = plane == 0 ? 8 : 4;
                int wide = with.wide(plane);
                int corner = with.base(plane) + down * side * wide + across * side;
                int at = PLANE_BASE[plane];
                for (int r = 0; r < side; r++) {
                    if (back) {
                        System.arraycopy(line, at, with.samples, corner + r * wide, side);
                    } else {
                        System.arraycopy(with.samples, corner + r * wide, line, at, side);
                    }
                    at += side;
                }
            }
        }
    }

    /** Reads the pictures of films of all codings, and mends them. */
    private static final class Reader {
        private final Bits bits = new Bits();
        private final Parts parts = new Parts();
        private final Waves waves = new Waves();
        private final Runs runs = new Runs();
        private final Film spare = new Film();
        private final int[] found = new int[4];
        private int spot = 0;

        /** The k-th picture as it comes out if its group is read by itself, less what is lost. */
        Picture readAnew(Film film, int k, int lost) {
            int from = film.groupStart(k);
            spare.coding = film.coding;
            spare.openPictures(film.width, film.height, from, k + 1);
            for (int j = from; j <= k; j++) {
                readPicture(film, spare, j, from, (lost >> j & 1) == 1);
            }
            return spare.pictures[k];
        }

        /** Reads by the heads of a film into a film (the same, or the spare one). */
        void readPicture(Film film, Film into, int k, int from, boolean isLost) {
            bits.open(film.data, film.heads[k] + PICTURE_HEAD, isLost ? 0 : film.sizes[k]);
            parts.openPicture(film, into, k, from);
            parts.step = film.steps[k];
            int rule;
            switch (film.coding) {
                case BLOCKS: rule = readParts(into, k); break;
                case WAVES: rule = readWaves(into.pictures[k]); break;
                default: rule = readRuns(into.pictures[k]); break;
            }
            if (rule == 0 && !bits.endsAsTold()) {
                rule = RULE_TAIL;
            }
            into.rules[k] = rule;
            into.spots[k] = rule == 0 ? -1 : spot;
            if (rule != 0) {
                boolean asBehind = film.coding == BLOCKS || (film.coding == RUNS && parts.kind == KIND_P);
                mend(into, k, asBehind ? parts.behind : null);
            }
        }

        private static void mend(Film into, int k, Picture from) {
            Picture picture = into.pictures[k];
            for (int plane = 0; plane < 3; plane++) {
                int at = picture.base(plane);
                for (int y = 0; y < picture.high(plane); y++) {
                    for (int x = 0; x < picture.wide(plane); x++) {
                        if (into.isMended(k, plane, x, y)) {
                            picture.samples[at] = from == null ? 128 : from.samples[at];
                        }
                        at++;
                    }
                }
            }
        }

        private int readParts(Film into, int k) {
            Picture picture = parts.picture;
            int many = (picture.width / 8) * (picture.height / 8);
            for (int m = 0; m < many; m++) {
                spot = m;
                parts.goTo(m);
                int start = bits.at;
                int way = bits.code();
                int rule = way < 0 ? bits.fault : way >= parts.wayCount() ? RULE_WAY : 0;
                if (rule == 0) {
                    rule = readPart(parts.modeOf(way));
                }
                if (rule != 0) {
                    return rule;
                }
                parts.exchange(picture, parts.made, true);
                noteFacts(into.facts, (k * MOST_PARTS + m) * FACTS, way, bits.at - start);
            }
            spot = many;
            return 0;
        }

        private void noteFacts(int[] facts, int at, int way, int bitCount) {
            int levelSum = 0;
            for (int block = 0; block < 6; block++) {
                levelSum += parts.levelCount(block);
            }
            facts[at] = way;
            for (int i = 0; i < 4; i++) {
                facts[at + 1 + i] = parts.vector[i];
            }
            facts[at + 5] = levelSum;
            facts[at + 6] = bitCount;
        }

        private int readPart(int mode) {
            for (int i = 0; i < 4; i++) {
                if (Parts.tells(mode, i)) {
                    int code = bits.code();
                    if (code < 0) {
                        return bits.fault;
                    }
                    found[i] = parts.guess[i] + Bits.signedOfCode(code);
                    if (found[i] < -16 || found[i] > 16) {
                        return RULE_VECTOR;
                    }
                }
            }
            for (int i = 0; i < Parts.SAMPLES; i++) {
                parts.levels[i] = 0;
            }
            for (int block = 0; block < 6 && mode != Parts.SKIPPED; block++) {
                int rule = readBlock(block);
                if (rule != 0) {
                    return rule;
                }
            }
            parts.takeVectors(mode, found);
            parts.foretell(mode);
            parts.makeForetold();
            for (int block = 0; block < 6; block++) {
                if (parts.levelCount(block) > 0) {
                    parts.addRest(block);
                }
            }
            return 0;
        }

        private int readBlock(int block) {
            int many = bits.code();
            if (many < 0) {
                return bits.fault;
            }
            if (many > 16) {
                return RULE_ROOM;
            }
            int at = 0;
            for (int i = 0; i < many; i++) {
                int passed = bits.code();
                if (passed < 0) {
                    return bits.fault;
                }
                at += passed;
                if (at > 15) {
                    return RULE_ROOM;
                }
                int code = bits.code();
                if (code < 0) {
                    return bits.fault;
                }
                int level = Bits.signedOfCode(code);
                if (level == 0 || level < -4095 || level > 4095) {
                    return RULE_LEVEL;
                }
                parts.levels[16 * block + at] = level;
                at++;
            }
            return 0;
        }

        private int readWaves(Picture picture) {
            for (int plane = 0; plane < 3; plane++) {
                spot = plane;
                int rule = waves.readPlane(bits, picture, plane);
                if (rule != 0) {
                    return rule;
                }
            }
            spot = 3;
            return 0;
        }

        private int readRuns(Picture picture) {
            Picture anchor = parts.kind == KIND_P ? parts.behind : null;
            for (int plane = 0; plane < 3; plane++) {
                int rule = runs.readPlane(bits, picture, plane, anchor);
                spot = picture.base(plane) + runs.there;
                if (rule != 0) {
                    return rule;
                }
            }
            return 0;
        }
    }

    /** The planes of WAVES, lifted and let down again. */
    private static final class Waves {
        private final int[] numbers = new int[24 * 24];
        private final int[] line = new int[24];

        int readPlane(Bits bits, Picture picture, int plane) {
            int wide = picture.wide(plane);
            int high = picture.high(plane);
            int rule = readNumbers(bits, wide * high);
            if (rule != 0) {
                return rule;
            }
            lowerAll(wide, wide / 2, high / 2);
            lowerAll(wide, wide, high);
            int base = picture.base(plane);
            for (int i = 0; i < wide * high; i++) {
                picture.samples[base + i] = held(numbers[i]);
            }
            return 0;
        }

        private int readNumbers(Bits bits, int all) {
            int at = 0;
            for (int turn = 0; turn < all && at < all; turn++) {
                int zeros = bits.code();
                if (zeros < 0) {
                    return bits.fault;
                }
                if (zeros > all - at) {
                    return RULE_ROOM;
                }
                for (int i = 0; i < zeros; i++) {
                    numbers[at++] = 0;
                }
                if (at < all) {
                    int code = bits.code();
                    if (code < 0) {
                        return bits.fault;
                    }
                    int v = Bits.signedOfCode(code);
                    if (v == 0 || v < -4095 || v > 4095) {
                        return RULE_LEVEL;
                    }
                    numbers[at++] = v;
                }
            }
            return 0;
        }

        void writePlane(Bits bits, Picture picture, int plane) {
            int wide = picture.wide(plane);
            int high = picture.high(plane);
            int all = wide * high;
            int base = picture.base(plane);
            for (int i = 0; i < all; i++) {
                numbers[i] = picture.samples[base + i];
            }
            liftAll(wide, wide, high);
            liftAll(wide, wide / 2, high / 2);
            int zeros = 0;
            for (int i = 0; i < all; i++) {
                if (numbers[i] == 0) {
                    zeros++;
                } else {
                    bits.writeCode(zeros);
                    bits.writeCode(Bits.codeOfSigned(numbers[i]));
                    zeros = 0;
                }
            }
            if (zeros > 0) {
                bits.writeCode(zeros);
            }
        }

        private void liftAll(int stride, int wide, int high) {
            for (int y = 0; y < high; y++) {
                lift(y * stride, 1, wide);
            }
            for (int x = 0; x < wide; x++) {
                lift(x, stride, high);
            }
        }

        private void lowerAll(int stride, int wide, int high) {
            for (int x = 0; x < wide; x++) {
                lower(x, stride, high);
            }
            for (int y = 0; y < high; y++) {
                lower(y * stride, 1, wide);
            }
        }

        private void lift(int start, int stride, int n) {
            for (int i = 0; i < n; i++) {
                line[i] = numbers[start + i * stride];
            }
            for (int i = 1; i < n; i += 2) {
                int right = i + 1 < n ? line[i + 1] : line[i - 1];
                line[i] -= (line[i - 1] + right) >> 1;
            }
            for (int i = 0; i < n; i += 2) {
                int left = i > 0 ? line[i - 1] : line[i + 1];
                line[i] += (left + line[i + 1] + 2) >> 2;
            }
            for (int i = 0; i < n; i++) {
                int to = (i & 1) == 0 ? i / 2 : n / 2 + i / 2;
                numbers[start + to * stride] = line[i];
            }
        }

        private void lower(int start, int stride, int n) {
            for (int i = 0; i < n; i++) {
                int from = (i & 1) == 0 ? i / 2 : n / 2 + i / 2;
                line[i] = numbers[start + from * stride];
            }
            for (int i = 0; i < n; i += 2) {
                int left = i > 0 ? line[i - 1] : line[i + 1];
                line[i] -= (left + line[i + 1] + 2) >> 2;
            }
            for (int i = 1; i < n; i += 2) {
                int right = i + 1 < n ? line[i + 1] : line[i - 1];
                line[i] += (line[i - 1] + right) >> 1;
            }
            for (int i = 0; i < n; i++) {
                numbers[start + i * stride] = line[i];
            }
        }
    }

    /** The planes of RUNS. */
    private static final class Runs {
        private static final int FILLED = 0;
        private static final int SAME = 1;
        private static final int DOWN = 2;
        private static final int TOLD = 3;
        private static final int NONE_YET = 1000000;
        int there = 0;
        private final int[] need = new int[24 * 24 + 1];
        private final int[] ways = new int[24 * 24];
        private final int[] lengths = new int[24 * 24];

        int readPlane(Bits bits, Picture picture, int plane, Picture anchor) {
            int wide = picture.wide(plane);
            int all = wide * picture.high(plane);
            there = 0;
            for (int turn = 0; turn < all && there < all; turn++) {
                int way = bits.code();
                if (way < 0) {
                    return bits.fault;
                }
                if (way > TOLD || (way == SAME && anchor == null)) {
                    return RULE_WAY;
                }
                int less = bits.code();
                if (less < 0) {
                    return bits.fault;
                }
                if (less >= all - there || (way == DOWN && there < wide)) {
                    return RULE_ROOM;
                }
                int rule = readRun(bits, picture, plane, anchor, way, less + 1);
                if (rule != 0) {
                    return rule;
                }
            }
            return 0;
        }

        private int readRun(Bits bits, Picture picture, int plane, Picture anchor, int way, int length) {
            int wide = picture.wide(plane);
            int base = picture.base(plane);
            int told = 0;
            for (int i = 0; i < length; i++) {
                if (way == TOLD || (way == FILLED && i == 0)) {
                    told = bits.eight();
                    if (told < 0) {
                        return bits.fault;
                    }
                }
                int at = base + there;
                int v = told;
                if (way == SAME && anchor != null) {
                    v = anchor.samples[at];
                }
                if (way == DOWN && there >= wide) {
                    v = picture.samples[at - wide];
                }
                picture.samples[at] = v;
                there++;
            }
            return 0;
        }

        void writePlane(Bits bits, Picture picture, int plane, Picture anchor) {
            findRuns(picture, plane, anchor);
            int base = picture.base(plane);
            int all = picture.wide(plane) * picture.high(plane);
            int at = 0;
            for (int turn = 0; turn < all && at < all; turn++) {
                int way = ways[at];
                int length = lengths[at];
                bits.writeCode(way);
                bits.writeCode(length - 1);
                int told = way == FILLED ? 1 : way == TOLD ? length : 0;
                for (int i = 0; i < told; i++) {
                    bits.write(picture.samples[base + at + i], 8);
                }
                at += length;
            }
        }

        /** From the end on, for what is the best from a sample on asks for that behind it alone. */
        private void findRuns(Picture picture, int plane, Picture anchor) {
            int wide = picture.wide(plane);
            int all = wide * picture.high(plane);
            int base = picture.base(plane);
            int[] samples = picture.samples;
            int alike = 0;
            int same = 0;
            int down = 0;
            need[all] = 0;
            for (int at = all - 1; at >= 0; at--) {
                int v = samples[base + at];
                alike = at + 1 < all && samples[base + at + 1] == v ? alike + 1 : 1;
                same = anchor != null && anchor.samples[base + at] == v ? same + 1 : 0;
                down = at >= wide && samples[base + at - wide] == v ? down + 1 : 0;
                need[at] = NONE_YET;
                tryRun(at, FILLED, alike, 8);
                tryRun(at, SAME, same, 0);
                tryRun(at, DOWN, down, 0);
                tryTold(at, all);
            }
        }

        /**
         * Of all lengths whose codes are equally long only the greatest is tried: from a later
         * sample on never more bits are needed than from an earlier one.
         */
        private void tryRun(int at, int way, int longest, int extra) {
            int length = longest;
            for (int turn = 0; turn < 12 && length > 0; turn++) {
                int bits = Bits.codeLength(length - 1);
                int all = Bits.codeLength(way) + bits + extra + need[at + length];
                take(at, way, length, all);
                length = (1 << (bits / 2)) - 1;
            }
        }

        private void take(int at, int way, int length, int all) {
            if (all < need[at]) {
                need[at] = all;
                ways[at] = way;
                lengths[at] = length;
            }
        }

        /** One TOLD is always shorter than two, so none ends where the best goes on with another. */
        private void tryTold(int at, int all) {
            int best = NONE_YET;
            int bestLength = 0;
            for (int length = 1; length <= all - at; length++) {
                int next = at + length;
                if (next < all && ways[next] == TOLD) {
                    continue;
                }
                int own = Bits.codeLength(TOLD) + Bits.codeLength(length - 1) + 8 * length;
                if (own > best || own > need[at]) {
                    break;
                }
                if (own + need[next] <= best) {
                    best = own + need[next];
                    bestLength = length;
                }
            }
            if (bestLength > 0) {
                take(at, TOLD, bestLength, best);
            }
        }
    }

    /** Makes the bits of pictures of BLOCKS. */
    private static final class BlocksMaker {
        private final Parts parts = new Parts();
        private final Bits tally = new Bits();
        private final int[] wanted = new int[Parts.SAMPLES];
        private final int[] bestMade = new int[Parts.SAMPLES];
        private final int[] bestLevels = new int[Parts.SAMPLES];
        private final int[] bestVector = new int[4];
        private final int[] found = new int[4];
        private int bestWay = 0;
        private int bestCost = 0;

        /** Codes the k-th picture of the film, whose own picture becomes what is read then. */
        int codePicture(Bits out, Film film, int k, Picture source, int step, int reach) {
            out.startWriting();
            parts.openPicture(film, film, k, 0);
            parts.step = step;
            int many = (source.width / 8) * (source.height / 8);
            for (int m = 0; m < many; m++) {
                parts.goTo(m);
                parts.exchange(source, wanted, false);
                if (parts.kind != KIND_I) {
                    findVector(parts.behind, 0, reach);
                }
                if (parts.kind == KIND_B) {
                    findVector(parts.ahead, 2, reach);
                }
                for (int way = 0; way < parts.wayCount(); way++) {
                    tryWay(way);
                }
                takeBest();
                parts.exchange(parts.picture, parts.made, true);
                writePart(out, bestWay);
            }
            return out.byteCount();
        }

        private void findVector(Picture from, int which, int reach) {
            int least = ENDLESS;
            for (int y = -reach; y <= reach; y++) {
                for (int x = -reach; x <= reach; x++) {
                    parts.vector[which] = x;
                    parts.vector[which + 1] = y;
                    int sum = Bits.signedLength(x - parts.guess[which]) + Bits.signedLength(y - parts.guess[which + 1]);
                    sum += parts.farAt(from, which, wanted, least - sum);
                    if (sum < least) {
                        least = sum;
                        found[which] = x;
                        found[which + 1] = y;
                    }
                }
            }
        }

        private void tryWay(int way) {
            int mode = parts.modeOf(way);
            parts.takeVectors(mode, found);
            parts.foretell(mode);
            parts.makeForetold();
            for (int block = 0; block < 6 && mode != Parts.SKIPPED; block++) {
                parts.takeLevels(block, wanted);
                if (parts.levelCount(block) > 0) {
                    parts.addRest(block);
                }
            }
            tally.startCounting();
            writePart(tally, way);
            int cost = parts.step * parts.step * tally.at;
            for (int i = 0; i < Parts.SAMPLES; i++) {
                int d = wanted[i] - parts.made[i];
                cost += d * d;
            }
            if (way == 0 || cost < bestCost) {
                bestCost = cost;
                bestWay = way;
                System.arraycopy(parts.made, 0, bestMade, 0, Parts.SAMPLES);
                System.arraycopy(parts.levels, 0, bestLevels, 0, Parts.SAMPLES);
                System.arraycopy(parts.vector, 0, bestVector, 0, 4);
            }
        }

        private void takeBest() {
            System.arraycopy(bestMade, 0, parts.made, 0, Parts.SAMPLES);
            System.arraycopy(bestLevels, 0, parts.levels, 0, Parts.SAMPLES);
            System.arraycopy(bestVector, 0, parts.vector, 0, 4);
        }

        private void writePart(Bits to, int way) {
            int mode = parts.modeOf(way);
            to.writeCode(way);
            for (int i = 0; i < 4; i++) {
                if (Parts.tells(mode, i)) {
                    to.writeCode(Bits.codeOfSigned(parts.vector[i] - parts.guess[i]));
                }
            }
            int passed = 0;
            for (int i = 0; i < Parts.SAMPLES && mode != Parts.SKIPPED; i++) {
                if (i % 16 == 0) {
                    to.writeCode(parts.levelCount(i / 16));
                    passed = 0;
                }
                int level = parts.levels[i];
                if (level == 0) {
                    passed++;
                } else {
                    to.writeCode(passed);
                    to.writeCode(Bits.codeOfSigned(level));
                    passed = 0;
                }
            }
        }
    }

    /** Makes films: of a reel, and of rows of a list. */
    private static final class Maker {
        private static final int LONGEST_PLANNED = 4;
        private final Bits out = new Bits();
        private final BlocksMaker blocks = new BlocksMaker();
        private final Waves waves = new Waves();
        private final Runs runs = new Runs();
        private final Picture[] sources = new Picture[MOST_SHOWN];
        private int many = 0;
        private int[] settings = null;
        private final int[] groups = new int[MOST_SHOWN];
        private final int[] need = new int[MOST_SHOWN + 1];
        private final int[] marks = new int[LONGEST_PLANNED];

        void takeReel(Picture[] reel, int reelCount, int[] told) {
            many = reelCount;
            settings = told;
            for (int i = 0; i < many; i++) {
                sources[i] = reel[i];
            }
        }

        /** groups[place] is how long a group is that begins there. */
        void evenGroups(int coding) {
            int length = coding == WAVES ? 1 : settings[GROUP];
            for (int place = 0; place < many; place++) {
                groups[place] = Math.min(length, many - place);
            }
        }

        /** No group looks at another, so that the best way from a place on is found from the end. */
        void planGroups(Film scratch) {
            need[many] = 0;
            for (int k = 0; k < LONGEST_PLANNED; k++) {
                marks[k] = -1;
            }
            scratch.openPictures(sources[0].width, sources[0].height, 0, many);
            for (int place = many - 1; place >= 0; place--) {
                need[place] = ENDLESS;
                for (int n = 1; n <= LONGEST_PLANNED && place + n <= many; n++) {
                    int all = groupNeed(scratch, place, n) + need[place + n];
                    if (all < need[place]) {
                        need[place] = all;
                        groups[place] = n;
                    }
                }
            }
        }

        /** What a group begins with like the one that was tried last need not be coded again. */
        private int groupNeed(Film scratch, int place, int n) {
            layGroup(scratch, 0, place, n, settings[BETWEEN]);
            boolean known = true;
            int sum = 0;
            for (int k = 0; k < n; k++) {
                int mark = 3 * scratch.places[k] + scratch.kinds[k];
                known = known && marks[k] == mark;
                if (!known) {
                    Picture source = sources[scratch.places[k]];
                    int used = blocks.codePicture(out, scratch, k, source, settings[STEP], settings[REACH]);
                    scratch.sizes[k] = used;
                    marks[k] = mark;
                }
                sum += PICTURE_HEAD + scratch.sizes[k];
            }
            return sum;
        }

        /** Kinds and places, in the order of coding from k on, of a group of n pictures. */
        private static void layGroup(Film film, int k, int place, int n, int between) {
            int at = k;
            int last = 0;
            film.kinds[at] = KIND_I;
            film.places[at] = place;
            for (int j = 1; j < n; j++) {
                if (j % (between + 1) == 0 || j == n - 1) {
                    at++;
                    film.kinds[at] = KIND_P;
                    film.places[at] = place + j;
                    for (int b = last + 1; b < j; b++) {
                        at++;
                        film.kinds[at] = KIND_B;
                        film.places[at] = place + b;
                    }
                    last = j;
                }
            }
        }

        boolean makeFilm(Film film, int coding) {
            film.start();
            film.appendHead(coding, sources[0], settings[RATE], many);
            film.openPictures(sources[0].width, sources[0].height, 0, many);
            int between = coding == BLOCKS ? settings[BETWEEN] : 0;
            int place = 0;
            for (int turn = 0; turn < many && place < many; turn++) {
                layGroup(film, place, place, groups[place], between);
                place += groups[place];
            }
            return coding == BLOCKS ? makeBlocks(film) : makeOthers(film, coding);
        }

        private boolean makeBlocks(Film film) {
            int size = settings[SIZE];
            int have = size / 2;
            for (int k = 0; k < many; k++) {
                have = Math.min(size, have + settings[FLOW]);
                Picture source = sources[film.places[k]];
                int step = settings[STEP];
                int used = blocks.codePicture(out, film, k, source, step, settings[REACH]);
                while (size > 0 && 8 * used > have && step < MOST_STEP) {
                    step++;
                    used = blocks.codePicture(out, film, k, source, step, settings[REACH]);
                }
                if ((size > 0 && 8 * used > have) || used > MOST_FOLLOWING) {
                    return false;
                }
                have -= 8 * used;
                film.appendPicture(k, step, out.data, 0, used);
            }
            return true;
        }

        private boolean makeOthers(Film film, int coding) {
            for (int k = 0; k < many; k++) {
                out.startWriting();
                Picture anchor = film.kinds[k] == KIND_P && k > 0 ? sources[k - 1] : null;
                for (int plane = 0; plane < 3; plane++) {
                    if (coding == WAVES) {
                        waves.writePlane(out, sources[k], plane);
                    } else {
                        runs.writePlane(out, sources[k], plane, anchor);
                    }
                }
                if (out.byteCount() > MOST_FOLLOWING) {
                    return false;
                }
                film.appendPicture(k, 0, out.data, 0, out.byteCount());
            }
            return true;
        }

        void startCut(Film made, Film lead, int pictureSum, int[] told) {
            many = 0;
            settings = told;
            made.appendHead(BLOCKS, lead.pictures[0], lead.rate, pictureSum);
            made.openPictures(lead.width, lead.height, 0, pictureSum);
        }

        /** False if a picture would have too many bytes; many is how many are there so far. */
        boolean addRow(Film made, Film film, int from, int to) {
            for (int start = 0; start < film.many; start++) {
                if (!film.begins[start]) {
                    continue;
                }
                int end = film.groupEnd(start);
                int low = Math.max(from, start);
                int high = Math.min(to, end - 1);
                if (low == start && high == end - 1) {
                    keepGroup(made, film, start, end);
                } else if (low <= high && !makeAnew(made, film, low, high, film.steps[start])) {
                    return false;
                }
            }
            return true;
        }

        /** The pictures of a group are neighbours in either order, so its places begin at start. */
        private void keepGroup(Film made, Film film, int start, int end) {
            int base = many;
            for (int k = start; k < end; k++) {
                made.kinds[many] = film.kinds[k];
                made.places[many] = base + film.places[k] - start;
                made.kept[made.places[many]] = true;
                int data = film.heads[k] + PICTURE_HEAD;
                made.appendPicture(many, film.steps[k], film.data, data, film.sizes[k]);
                many++;
            }
        }

        private boolean makeAnew(Film made, Film film, int low, int high, int step) {
            int base = many;
            layGroup(made, base, base, high - low + 1, settings[BETWEEN]);
            for (int i = low; i <= high; i++) {
                Picture source = film.pictures[film.order[low + made.places[many] - base]];
                int used = blocks.codePicture(out, made, many, source, step, settings[REACH]);
                if (used > MOST_FOLLOWING) {
                    return false;
                }
                made.appendPicture(many, step, out.data, 0, used);
                many++;
            }
            return true;
        }
    }

    /** A filter: its text is read once, and kept as steps over a pile of numbers. */
    private static final class Filter {
        private static final int MOST_TEXT = 200;
        private static final int MOST_DEPTH = 12;
        private static final int MOST_DIGITS = 5;
        private static final int NUMBER = 1000;
        private final int[] steps = new int[MOST_TEXT];
        private int stepCount = 0;
        private final int[] pile = new int[MOST_TEXT];
        private byte[] text = null;
        private int end = 0;
        private int at = 0;

        /** The place of the first byte that can't be there; -1 if the text is a filter. */
        int wrongPlace(byte[] tape, int length) {
            text = tape;
            end = Math.min(length, MOST_TEXT);
            at = 0;
            stepCount = 0;
            if (!readSum(0)) {
                return at;
            }
            return at < length ? at : -1;
        }

        private void addStep(int step) {
            if (stepCount < MOST_TEXT) {
                steps[stepCount++] = step;
            }
        }

        /** The next byte that is no blank; 0 at the end. */
        private int next() {
            while (at < end && text[at] == ' ') {
                at++;
            }
            return at < end ? text[at] : 0;
        }

        private boolean pass(int wanted) {
            if (next() != wanted) {
                return false;
            }
            at++;
            return true;
        }

        private boolean readSum(int depth) {
            boolean right = readProduct(depth);
            for (int turn = 0; turn < MOST_TEXT && right; turn++) {
                int sign = next();
                if (sign != '+' && sign != '-') {
                    return true;
                }
                at++;
                right = readProduct(depth);
                addStep(sign);
            }
            return right;
        }

        private boolean readProduct(int depth) {
            boolean right = readFactor(depth);
            for (int turn = 0; turn < MOST_TEXT && right; turn++) {
                int sign = next();
                if (sign != '*' && sign != '/' && sign != '%') {
                    return true;
                }
                at++;
                right = readFactor(depth);
                addStep(sign);
            }
            return right;
        }

        private boolean readFactor(int depth) {
            int c = next();
            if (c >= '0' && c <= '9') {
                return readNumber();
            }
            switch (c) {
                case 'x': case 'y': case 'w': case 'h': case 'n': case 't': case 's':
                    at++;
                    addStep(c);
                    return true;
                case '-':
                    return readMinus(depth);
                case '(':
                    return readParts(depth, 1);
                case 'a': case 'm': case 'M': case 'i':
                    at++;
                    boolean right = readParts(depth, c == 'i' ? 3 : 2);
                    addStep(c);
                    return right;
                default:
                    return false;
            }
        }

        private boolean readNumber() {
            int v = 0;
            for (int i = 0; i < MOST_DIGITS && isDigitHere(); i++) {
                v = 10 * v + text[at] - '0';
                at++;
            }
            addStep(NUMBER + v);
            return !isDigitHere();
        }

        private boolean isDigitHere() {
            return at < end && text[at] >= '0' && text[at] <= '9';
        }

        private boolean readMinus(int depth) {
            if (depth >= MOST_DEPTH) {
                return false;
            }
            at++;
            boolean right = readFactor(depth + 1);
            addStep('~');
            return right;
        }

        private boolean readParts(int depth, int many) {
            if (next() != '(' || depth >= MOST_DEPTH) {
                return false;
            }
            at++;
            for (int i = 0; i < many; i++) {
                if (i > 0 && !pass(',')) {
                    return false;
                }
                if (!readSum(depth + 1)) {
                    return false;
                }
            }
            return pass(')');
        }

        int work(Picture from, int plane, int x, int y, int t) {
            int top = 0;
            for (int i = 0; i < stepCount; i++) {
                int step = steps[i];
                int taken = operands(step);
                if (top < taken || top - taken >= MOST_TEXT) {
                    return 0;
                }
                top -= taken;
                int v;
                switch (step) {
                    case 'x': v = x; break;
                    case 'y': v = y; break;
                    case 'w': v = from.wide(plane); break;
                    case 'h': v = from.high(plane); break;
                    case 'n': v = plane; break;
                    case 't': v = t; break;
                    case 's': v = from.nearest(plane, x, y); break;
                    case 'a': v = from.nearest(plane, (long) x + pile[top], (long) y + pile[top + 1]); break;
                    case 'i': v = pile[top] != 0 ? pile[top + 1] : pile[top + 2]; break;
                    case '~': v = -pile[top]; break;
                    default: v = step >= NUMBER ? step - NUMBER : join(step, pile[top], pile[top + 1]); break;
                }
                pile[top++] = v;
            }
            return top == 1 ? pile[0] : 0;
        }

        private static int operands(int step) {
            switch (step) {
                case 'x': case 'y': case 'w': case 'h': case 'n': case 't': case 's': return 0;
                case '~': return 1;
                case 'i': return 3;
                default: return step >= NUMBER ? 0 : 2;
            }
        }

        private static int join(int sign, int one, int other) {
            switch (sign) {
                case '+': return one + other;
                case '-': return one - other;
                case '*': return one * other;
                case '/': return other == 0 ? 0 : one / other;
                case '%': return other == 0 ? 0 : one % other;
                case 'm': return Math.min(one, other);
                default: return Math.max(one, other);
            }
        }
    }

    /** One who watches a film whose bytes come by and by. */
    private static final class Player {
        Film film = null;
        int filmNumber = 0;
        int come = 0;
        int next = 0;
        boolean runs = false;
        int late = 0;
        int latest = -1;
        int lost = 0;
        Picture showing = null;
        private int speed = 1;
        private int wait = 0;
        private int begun = 0;

        void begin(Film newFilm, int number, int newSpeed, int newWait) {
            film = newFilm;
            filmNumber = number;
            speed = newSpeed;
            wait = newWait;
            come = 0;
            begun = 0;
            next = 0;
            runs = false;
            late = 0;
            latest = -1;
            lost = 0;
            if (showing == null) {
                showing = new Picture();
            }
        }

        void goTo(int place) {
            come = film.heads[film.groupStart(film.order[place])];
            begun = come;
            next = place;
            runs = false;
        }

        /** The place to be shown now, or why there is none. */
        int goOn() {
            come = Math.min(film.length, come + speed);
            if (next >= film.many) {
                return -3;
            }
            runs = runs || come - begun >= wait || come == film.length;
            if (!runs) {
                return -2;
            }
            if (come < film.endOf(film.order[next])) {
                late++;
                return -1;
            }
            latest = next;
            next++;
            return latest;
        }
    }
}
