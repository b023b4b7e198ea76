/**
 * The class under test behind a counter: the document promises nothing of an object after its 512th
 * call, so no test may make more of them on one object.
 */
final class House {
    static final int MOST_CALLS = 512;
    private final PictureHouse house = new PictureHouse();
    private int calls = 0;

    private PictureHouse called() {
        calls++;
        if (calls == MOST_CALLS + 1) {
            Check.due("calls that a test makes on one object", calls, MOST_CALLS);
        }
        return house;
    }

    int blank(int width, int height, int a, int b, int c) {
        return called().blank(width, height, a, b, c);
    }

    int fill(int p, int plane, int x, int y, int w, int h, int v) {
        return called().fill(p, plane, x, y, w, h, v);
    }

    void noise(int p, int plane, long s, int amount) {
        called().noise(p, plane, s, amount);
    }

    int shift(int p, int dx, int dy) {
        return called().shift(p, dx, dy);
    }

    int put(int p, int plane, int x, int y, int v) {
        return called().put(p, plane, x, y, v);
    }

    int sample(int p, int plane, int x, int y) {
        return called().sample(p, plane, x, y);
    }

    int size(int p, int what) {
        return called().size(p, what);
    }

    int drop(int n) {
        return called().drop(n);
    }

    int feed(long eight, int n) {
        return called().feed(eight, n);
    }

    int alter(int i, int v) {
        return called().alter(i, v);
    }

    int tape(int i) {
        return called().tape(i);
    }

    int wipe() {
        return called().wipe();
    }

    int set(int what, int v) {
        return called().set(what, v);
    }

    int reel(int p) {
        return called().reel(p);
    }

    int unreel() {
        return called().unreel();
    }

    int make(int coding) {
        return called().make(coding);
    }

    int read() {
        return called().read();
    }

    int bytes(int f) {
        return called().bytes(f);
    }

    int film(int f, int what) {
        return called().film(f, what);
    }

    int coded(int f, int k, int what) {
        return called().coded(f, k, what);
    }

    int part(int f, int k, int m, int what) {
        return called().part(f, k, m, what);
    }

    int look(int f, int place, int plane, int x, int y) {
        return called().look(f, place, plane, x, y);
    }

    boolean mended(int f, int place, int plane, int x, int y) {
        return called().mended(f, place, plane, x, y);
    }

    int shown(int f, int place) {
        return called().shown(f, place);
    }

    int buffer(int f, int k, int size, int flow) {
        return called().buffer(f, k, size, flow);
    }

    int row(int f, int from, int to) {
        return called().row(f, from, to);
    }

    int cut() {
        return called().cut();
    }

    boolean kept(int f, int place) {
        return called().kept(f, place);
    }

    int forget() {
        return called().forget();
    }

    int filter() {
        return called().filter();
    }

    int apply(int q, int p, int t) {
        return called().apply(q, p, t);
    }

    int distance(int p, int q, int what) {
        return called().distance(p, q, what);
    }

    boolean first(int f, int place) {
        return called().first(f, place);
    }

    int twin(int f, int place) {
        return called().twin(f, place);
    }

    int movement(int f, int place, int m, int what) {
        return called().movement(f, place, m, what);
    }

    void play(int y, int f, int speed, int fill) {
        called().play(y, f, speed, fill);
    }

    int tick(int y) {
        return called().tick(y);
    }

    void lose(int y, int mask) {
        called().lose(y, mask);
    }

    void seek(int y, int place) {
        called().seek(y, place);
    }

    int player(int y, int what) {
        return called().player(y, what);
    }

    int frame(int y, int plane, int x, int yy) {
        return called().frame(y, plane, x, yy);
    }

    int count(int what) {
        return called().count(what);
    }
}
