/** Promises 37 to 42: players. */
public final class PlayersTest {
    public static void main(String[] args) {
        badly();
        ticks();
        between();
        lost();
        seeks();
        again();
        Check.end("PlayersTest");
    }

    /** Film 0 of BLOCKS: I P I P. */
    private static House house() {
        House house = new House();
        house.blank(8, 8, 100, 120, 130);
        house.noise(0, 0, 3L, 60);
        house.reel(0);
        for (int i = 1; i < 4; i++) {
            house.shift(i - 1, 1, 0);
            house.noise(i, 0, i, 30);
            house.reel(i);
        }
        house.set(1, 2);
        house.make(0);
        return house;
    }

    private static void badly() {
        House house = house();
        int[] none = {-1, 4, Integer.MAX_VALUE};
        for (int y : none) {
            Check.noSuch("37: player", () -> house.play(y, 0, 0, 0));
            Check.noSuch("38: player", () -> house.tick(y));
            Check.noSuch("39: player", () -> house.lose(y, 0));
            Check.noSuch("40: player", () -> house.seek(y, 0));
            Check.noSuch("41: player ahead of what", () -> house.player(y, 9));
            Check.noSuch("42: player", () -> house.frame(y, 0, 0, 0));
        }
        Check.noSuch("37: film ahead of the speed", () -> house.play(0, 1, 0, 0));
        Check.noSuch("37: film below 0", () -> house.play(0, -1, 1, 0));
        int[][] bad = {{0, 0}, {4001, 0}, {1, -1}, {1, 4001}};
        for (int[] pair : bad) {
            Check.badArgument("37: speed or fill", () -> house.play(0, 0, pair[0], pair[1]));
        }
        Check.badState("38: no film", () -> house.tick(0));
        Check.badState("39: no film", () -> house.lose(0, 0));
        Check.badState("40: no film, and no place is looked for", () -> house.seek(0, 99));
        Check.badArgument("41: what ahead of the film", () -> house.player(0, 6));
        Check.badState("41: no film", () -> house.player(0, 0));
        Check.badState("42: no film, and no x is looked at", () -> house.frame(0, 0, 99, -5));
        Check.noSuch("42: the plane is", () -> house.frame(0, 3, 0, 0));
        house.play(3, 0, 4000, 4000);
        Check.badState("42: nothing was shown", () -> house.frame(3, 0, 7, 7));
        Check.noSuch("42: x is looked at first", () -> house.frame(3, 0, 8, 7));
        Check.noSuch("42: y is looked at first", () -> house.frame(3, 1, 3, 4));
        Check.noSuch("40: place", () -> house.seek(3, 4));
        Check.noSuch("40: place below 0", () -> house.seek(3, -1));
        Check.badArgument("41: what", () -> house.player(3, 6));
        Check.badArgument("41: what below 0", () -> house.player(3, -1));
    }

    private static void stands(House house, int y, int... want) {
        for (int what = 0; what < want.length; what++) {
            Check.due("41: " + what, house.player(y, what), want[what]);
        }
    }

    private static void ticks() {
        House house = house();
        int all = house.film(0, 5);
        int end = house.coded(0, 1, 4);
        int speed = (end + 1) / 2;
        house.play(1, 0, speed, speed + 1);
        stands(house, 1, 0, 0, 0, 0, 0, -1);
        Check.due("38: it doesn't run", house.tick(1), -2);
        stands(house, 1, 0, speed, 0, 0, 0, -1);
        Check.due("38: it runs, and the first has come", house.tick(1), 0);
        stands(house, 1, 0, 2 * speed, 1, 1, 0, 0);
        Check.due("42: a sample", house.frame(1, 0, 3, 4), house.look(0, 0, 0, 3, 4));
        int late = 0;
        int next = 1;
        int come = 2 * speed;
        for (int i = 0; i < 20; i++) {
            come = Math.min(all, come + speed);
            int want = -3;
            if (next < 4) {
                boolean there = come >= house.coded(0, next, 4) + 5 + house.coded(0, next, 3);
                late += there ? 0 : 1;
                want = there ? next++ : -1;
            }
            Check.due("38: a tick", house.tick(1), want);
            stands(house, 1, 0, come, next, 1, late, next - 1);
            Check.due("42: a sample", house.frame(1, 2, 3, 3), house.look(0, next - 1, 2, 3, 3));
            Check.due("42: a sample", house.frame(1, 0, 7, 0), house.look(0, next - 1, 0, 7, 0));
        }
        house.play(0, 0, all - 1, 4000);
        Check.due("38: all but one byte", house.tick(0), -2);
        Check.due("38: all that there are", house.tick(0), 0);
        house.play(2, 0, 1, 0);
        Check.due("38: nothing is waited for", house.tick(2), -1);
        stands(house, 2, 0, 1, 0, 1, 1, -1);
    }

    /** I0 P3 B1 B2: a B has come when the P ahead of it in the film has. */
    private static void between() {
        House house = house();
        house.set(1, 4);
        house.set(2, 2);
        int f = house.make(0);
        house.play(0, f, 1, 0);
        int[] ends = new int[4];
        for (int k = 0; k < 4; k++) {
            ends[house.coded(f, k, 1)] = house.coded(f, k, 4) + 5 + house.coded(f, k, 3);
        }
        int all = house.film(f, 5);
        int next = 0;
        for (int come = 1; come <= Math.min(all + 2, 480) && next < 4; come++) {
            int want = come >= ends[next] ? next : -1;
            next += want < 0 ? 0 : 1;
            int got = house.tick(0);
            Check.due("38: with " + come + " bytes", got, want);
        }
        Check.due("38: the P was there ahead of the last B", house.player(0, 5) >= 1, true);
    }

    private static void lost() {
        House house = house();
        house.play(0, 0, 4000, 0);
        house.lose(0, 1);
        Check.due("38: the lost one comes like others", house.tick(0), 0);
        Check.due("42: but has no bits", house.frame(0, 0, 3, 3), 128);
        house.lose(0, 2);
        Check.due("38: the second", house.tick(0), 1);
        Check.due("42: as the anchor, read anew", house.frame(0, 0, 3, 3), house.look(0, 0, 0, 3, 3));
        house.lose(0, 3);
        Check.due("38: the third", house.tick(0), 2);
        Check.due("42: another group", house.frame(0, 0, 3, 3), house.look(0, 2, 0, 3, 3));
        house.lose(0, 4);
        Check.due("38: the fourth", house.tick(0), 3);
        house.bytes(0);
        for (int i = 0; i < house.coded(0, 2, 3); i++) {
            house.alter(house.coded(0, 2, 4) + 5 + i, 0);
        }
        int f = house.read();
        Check.due("21: broken", house.coded(f, 2, 7), 0);
        Check.due("23: mended as in the other group", house.look(f, 2, 0, 3, 3), house.look(f, 1, 0, 3, 3));
        house.play(1, f, 4000, 0);
        house.tick(1);
        house.tick(1);
        Check.due("38: the third", house.tick(1), 2);
        Check.due("42: its group is read as if it were the first", house.frame(1, 0, 3, 3), 128);
        Check.due("38: the fourth", house.tick(1), 3);
        Check.due("42: the same as with the third lost", house.frame(1, 0, 5, 6), house.frame(0, 0, 5, 6));
        house.set(1, 3);
        house.set(2, 1);
        house.set(4, 31);
        house.unreel();
        int dark = house.blank(8, 8, 10, 10, 10);
        int grey = house.blank(8, 8, 100, 100, 100);
        int light = house.blank(8, 8, 190, 190, 190);
        house.reel(dark);
        house.reel(grey);
        house.reel(light);
        int between = house.make(0);
        Check.due("22: a B of one bit", house.part(between, 2, 0, 6), 1);
        house.play(2, between, 4000, 0);
        house.tick(2);
        house.lose(2, 4);
        house.tick(2);
        Check.due("42: a lost B is as the earlier anchor", house.frame(2, 0, 4, 4), house.look(between, 0, 0, 4, 4));
        Check.due("42: and not as it was", house.frame(2, 0, 4, 4) != house.look(between, 1, 0, 4, 4), true);
        house.unreel();
        for (int p = 0; p < 4; p++) {
            house.reel(p);
        }
        int runs = house.make(2);
        house.play(2, runs, 4000, 0);
        house.lose(2, -1);
        house.tick(2);
        house.lose(2, 2);
        house.tick(2);
        Check.due("42: a P of RUNS is as its anchor", house.frame(2, 0, 4, 4), house.look(runs, 0, 0, 4, 4));
        int waves = house.make(1);
        house.play(2, waves, 4000, 0);
        house.lose(2, 1);
        house.tick(2);
        Check.due("42: WAVES without bits", house.frame(2, 1, 0, 0), 128);
    }

    private static void seeks() {
        House house = house();
        int second = house.coded(0, 2, 4);
        int end = house.coded(0, 3, 4) + 5 + house.coded(0, 3, 3);
        house.play(0, 0, 20, 30);
        for (int i = 0; i < 5; i++) {
            house.tick(0);
        }
        house.seek(0, 3);
        int late = house.player(0, 4);
        int latest = house.player(0, 5);
        stands(house, 0, 0, second, 3, 0, late, latest);
        house.lose(0, 4);
        Check.due("38: it doesn't run", house.tick(0), -2);
        Check.due("38: it runs", house.tick(0), -1);
        stands(house, 0, 0, second + 40, 3, 1, late + 1, latest);
        house.seek(0, 3);
        Check.due("40: it doesn't run", house.player(0, 3), 0);
        int come = second;
        int got = -1;
        for (int i = 0; i < 60 && got < 0; i++) {
            come += 20;
            got = house.tick(0);
        }
        Check.due("38: shown", got, 3);
        Check.due("38: when it had come", come >= end && come - 20 < end, true);
        Check.due("42: what was lost stays", house.frame(0, 2, 0, 0), 128);
        Check.due("38: all have been shown", house.tick(0), -3);
        house.seek(0, 1);
        stands(house, 0, 0, 7, 1, 0, house.player(0, 4), 3);
        Check.due("42: what was shown latest stays", house.frame(0, 2, 0, 0), 128);
    }

    private static void again() {
        House house = house();
        house.play(0, 0, 4000, 0);
        house.play(1, 0, 1, 0);
        house.tick(0);
        house.tick(1);
        house.lose(0, 1);
        int f = house.make(2);
        house.play(0, f, 4000, 0);
        stands(house, 0, f, 0, 0, 0, 0, -1);
        stands(house, 1, 0, 1, 0, 1, 1, -1);
        Check.badState("37: nothing was shown", () -> house.frame(0, 0, 0, 0));
        house.tick(0);
        Check.due("37: nothing is lost", house.frame(0, 0, 3, 3), house.look(f, 0, 0, 3, 3));
        house.forget();
        Check.badState("41: the players go", () -> house.player(1, 0));
    }
}
