import java.util.Random;

/** Promises 26 and 27 against the oracle, on roads where waiting is often worth something: right, best. */
final class RightTest {
    private static int waits;

    public static void main(String[] args) {
        Checks t = new Checks();
        Random r = new Random(26);
        for (int i = 0; i < 900; i++) {
            Oracle o = road(r, i < 60 ? 9 + i % 4 : 4 + r.nextInt(2));
            RedWhite x = t.on(o.text());
            for (int p = 0; p < o.players; p++) {
                int c = (p + i) % o.colours;
                if (r.nextInt(6) > 0 && x.take(p, c) == 0) {
                    o.own[p] = c;
                }
            }
            compare(t, x, o);
            for (int k = 0; k < 2; k++) {
                int c = r.nextInt(5) - 1;
                if (x.come(c) == 0) {
                    o.come(c);
                    compare(t, x, o);
                }
            }
        }
        t.due("waiting is worth something in " + waits + " cases", waits > 200, true);
        longest(t);
        t.finish();
    }

    /** Lands that differ much, scores that stay below the goal for some cars. */
    private static Oracle road(Random r, int cars) {
        Oracle o = new Oracle();
        o.colours = 3 + r.nextInt(2);
        o.lands = 2 + r.nextInt(2);
        o.players = 2 + r.nextInt(2);
        o.goal = 3 + r.nextInt(7);
        o.most = cars;
        o.change = true;
        for (int c = 0; c < o.colours; c++) {
            o.worth[c] = 1 + r.nextInt(r.nextBoolean() ? 1 : 3);
            o.ends[c] = r.nextInt(9) == 0;
        }
        for (int l = 0; l < 3; l++) {
            o.cars[l][4] = 12;
        }
        for (int l = 0; l < o.lands; l++) {
            o.chance[l] = 1 + r.nextInt(9);
            for (int k = 0; k < 3; k++) {
                int c = r.nextInt(o.colours);
                int n = Math.min(o.cars[l][4], r.nextInt(7));
                o.cars[l][c] += n;
                o.cars[l][4] -= n;
            }
        }
        for (int p = 0; p < o.players; p++) {
            o.start[p] = r.nextInt(3);
        }
        o.score = o.start.clone();
        return o;
    }

    private static void compare(Checks t, RedWhite x, Oracle o) {
        long all = o.all();
        for (int p = 0; p < o.players; p++) {
            int[] to = {-1};
            long now = o.now()[p];
            long right = o.mayTurn(p) ? o.right(p, o.weights(), o.score, o.rest(), to) : now;
            OddsTest.fraction(t, "right " + p + " of " + o.text(), x.right(p, 0), x.right(p, 1), right, all);
            t.due("best " + p + " of " + o.text(), x.best(p), to[0]);
            waits += to[0] < 0 && right > now ? 1 : 0;
        }
    }

    /**
     * Twelve cars: the first tells the land for sure, and then his colour is the only one. So he waits, and
     * turns only in the land where he must: he is as likely to win then as if he had had the right one.
     */
    private static void longest(Checks t) {
        String rest = "player p 0;player q 3;goal 9;cars 12;change;";
        RedWhite x = t.on("colour a 1;colour b 1;colour s 1;colour u 1;land l 1 a 6 s 6;land m 1 b 6 u 6;" + rest);
        x.take(0, 0);
        // p wins in l with 4 or more of 12 by halves: 4096 - 1 - 12 - 66 - 220 = 3797 ways.
        // In m he may turn behind the first car: by its colour he has lost at most one b.
        t.due("waits", x.best(0), -1);
        long inL = 2 * 3797;
        // The first car counts nothing in m: 4 or more of 11: 2048 - 1 - 11 - 55 - 165 = 1816 of 2048.
        long inM = 2 * 2 * 1816;
        OddsTest.fraction(t, "right by twelve", x.right(0, 0), x.right(0, 1), inL + inM, 4 * 4096);
        x.come(1);
        t.due("turns", x.best(0), 1);
        OddsTest.fraction(t, "right by eleven", x.right(0, 0), x.right(0, 1), 1816, 2048);
        for (int i = 0; i < 7; i++) {
            x.come(3);
        }
        t.due("turns", x.best(0), 1);
        OddsTest.fraction(t, "right by four", x.right(0, 0), x.right(0, 1), 1, 16);
        x.come(3);
        t.due("too late", x.best(0), -1);
        OddsTest.fraction(t, "right by three", x.right(0, 0), x.right(0, 1), 0, 1);
    }
}
