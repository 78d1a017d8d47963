import java.util.ArrayList;
import java.util.List;
import java.util.Random;

/** Promises 34 and 35: drawn, wins. */
final class DrawTest {
    private int x;

    public static void main(String[] args) {
        Checks t = new Checks();
        refusals(t);
        byHand(t);
        bySeed(t);
        t.finish();
    }

    private static void refusals(Checks t) {
        RedWhite none = t.on("colour a 1;player p 0;");
        t.due("no lands", none.drawn(1), -2);
        t.due("no lands", none.wins(0, 1, 1), -1);
        RedWhite over = t.on("colour a 1;land l 1 a 6;player p 3;goal 3;");
        t.due("over already", over.drawn(1), -2);
        t.due("over already", over.wins(0, 1, 1), -1);
        RedWhite x = t.on("colour a 1;land l 1 a 6;player p 0;player q 0;");
        t.due("no player", x.wins(2, 1, 1), -1);
        t.due("no player", x.wins(-1, 1, 1), -1);
        t.due("n 0", x.wins(0, 0, 1), -1);
        t.due("n 61", x.wins(0, 61, 1), -1);
        t.due("n -5", x.wins(0, -5, 1), -1);
        t.due("nothing to be undone", x.undo(), -1);
        t.due("n 60", x.wins(0, 60, 1) >= 0, true);
        t.due("nothing came", x.now(0), 0);
        t.due("nothing to be undone", x.undo(), -1);
    }

    private static void byHand(Checks t) {
        // Seed 0: x = 12345, the land by 48 % 3; then x = 12345 * 1103515245 + 12345 = -752489062 (wrapped).
        RedWhite x = t.on("colour a 1;land l 1 a 12;land m 2;player p 0;player q 0;cars 1;");
        x.take(0, 0);
        t.due("48 % 3 is 0: l", x.drawn(0), 0);
        t.due("its car", x.car(0), 0);
        t.due("undo", x.undo(), 1);
        t.due("nobody wins in m", x.drawn(1), (((1103515245 + 12345) >>> 8) % 3) == 0 ? 0 : -1);
    }

    private static void bySeed(Checks t) {
        Random r = new Random(34);
        for (int i = 0; i < 400; i++) {
            Oracle o = Oracle.random(r, 12);
            RedWhite x = t.on(o.text());
            for (int p = 0; p < o.players; p++) {
                int c = r.nextInt(4);
                if (x.take(p, c) == 0) {
                    o.own[p] = c;
                }
            }
            for (int k = r.nextInt(4); k > 0; k--) {
                int c = r.nextInt(5) - 1;
                if (x.come(c) == 0) {
                    o.come(c);
                }
            }
            compare(t, x, o, r.nextInt(3) == 0 ? Integer.MAX_VALUE - 3 : r.nextInt());
        }
    }

    private static void compare(Checks t, RedWhite x, Oracle o, int seed) {
        boolean can = !o.over() && o.lands > 0;
        int n = 1 + (seed & 15);
        int[] won = new int[3];
        for (int i = 0; i < n && can; i++) {
            int who = new DrawTest().drive(o, seed + i, new ArrayList<>());
            if (who >= 0) {
                won[who]++;
            }
        }
        for (int p = 0; p < o.players; p++) {
            t.due("wins", x.wins(p, n, seed), can ? won[p] : -1);
        }
        List<Integer> cars = new ArrayList<>();
        int who = can ? new DrawTest().drive(o, seed, cars) : -2;
        int before = x.now(0);
        t.due("drawn", x.drawn(seed), who);
        t.due("cars", x.now(0), before + cars.size());
        for (int i = 0; i < cars.size(); i++) {
            t.due("car", x.car(before + i), cars.get(i));
        }
        if (can) {
            t.due("over", x.now(1), 1);
            t.due("won", x.now(2), who);
            x.undo();
            t.due("undone", x.now(0), before);
        }
    }

    private int draw(int n) {
        x = x * 1103515245 + 12345;
        return (x >>> 8) % n;
    }

    /** Drives on a trip and takes it back: who won. */
    private int drive(Oracle o, int seed, List<Integer> cars) {
        x = seed;
        int[] score = o.score.clone();
        int came = o.came.size();
        long[] w = o.weights();
        List<Integer> lands = new ArrayList<>();
        for (int l = 0; l < o.lands; l++) {
            for (int k = 0; k < o.chance[l] && w[l] > 0; k++) {
                lands.add(l);
            }
        }
        int land = lands.get(draw(lands.size()));
        List<Integer> dozen = new ArrayList<>();
        for (int c = 0; c < o.colours; c++) {
            for (int k = 0; k < o.cars[land][c]; k++) {
                dozen.add(c);
            }
        }
        while (!o.over()) {
            int d = draw(12);
            int c = d < dozen.size() ? dozen.get(d) : -1;
            cars.add(c);
            o.come(c);
        }
        int who = o.winner();
        o.score = score;
        o.came = new ArrayList<>(o.came.subList(0, came));
        return who;
    }
}
