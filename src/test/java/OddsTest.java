import java.util.ArrayList;
import java.util.List;
import java.util.Random;

/**
 * Promises 14 to 28 and 33 against the oracle, on roads made by a seed: likely, nobody, where, next,
 * left, over, favourite, chosen, chance, which, fair, goal, right, best, also, luck.
 */
final class OddsTest {
    public static void main(String[] args) {
        Checks t = new Checks();
        Random r = new Random(20261118);
        for (int i = 0; i < 600; i++) {
            trip(t, r, Oracle.random(r, 5));
        }
        for (int i = 0; i < 200; i++) {
            Oracle o = Oracle.random(r, 12);
            o.most = 9 + i % 4;
            o.goal = Math.max(o.goal, 3 + i % 7);
            trip(t, r, o);
        }
        t.finish();
    }

    private static void trip(Checks t, Random r, Oracle o) {
        List<int[]> done = new ArrayList<>();
        RedWhite x = t.on(o.text());
        for (int i = 0; i < 10; i++) {
            compareNow(t, x, o);
            compareChoices(t, x, o);
            compareFair(t, x, o);
            act(t, r, x, o, done);
            // An object answers 512 calls only.
            if (i % 3 == 2) {
                x = again(t, o, done);
            }
        }
    }

    private static RedWhite again(Checks t, Oracle o, List<int[]> done) {
        RedWhite x = t.on(o.text());
        for (int[] act : done) {
            int why = act[0] == 0 ? x.take(act[1], act[2]) : act[0] == 1 ? x.turn(act[1], act[2]) : x.come(act[2]);
            t.due("done again", why, 0);
        }
        return x;
    }

    private static void act(Checks t, Random r, RedWhite x, Oracle o, List<int[]> done) {
        int p = r.nextInt(3);
        int c = r.nextInt(5) - 1;
        int what = r.nextInt(4);
        if (what == 0 && p < o.players && c >= 0 && c < o.colours) {
            int why = o.over() ? 1 : o.own[p] >= 0 ? 2 : o.holder(c) >= 0 ? 3 : 0;
            t.due("take", x.take(p, c), why);
            if (why == 0) {
                o.own[p] = c;
                done.add(new int[] {0, p, c});
            }
        } else if (what == 1 && p < o.players && c >= 0 && c < o.colours) {
            int why = o.over() ? 1 : !o.change ? 2 : !o.mayTurn(p) ? 3 : o.holder(c) >= 0 ? 4 : 0;
            t.due("turn", x.turn(p, c), why);
            if (why == 0) {
                o.own[p] = c;
                o.turned[p] = true;
                done.add(new int[] {1, p, c});
            }
        } else if (c < o.colours) {
            boolean can = Oracle.sum(o.weightsWith(o.weights(), c < 0 ? 4 : c)) > 0;
            int why = o.over() ? 1 : can ? 0 : 2;
            t.due("come", x.come(c), why);
            if (why == 0) {
                o.come(c);
                done.add(new int[] {2, -1, c});
            }
        }
    }

    static void fraction(Checks t, String call, long above, long below, long wantAbove, long wantBelow) {
        long a = Math.abs(wantAbove);
        long b = wantBelow;
        while (b != 0) {
            long rest = a % b;
            a = b;
            b = rest;
        }
        t.fraction(call, above, below, wantAbove / a, wantBelow / a);
    }

    private static void compareNow(Checks t, RedWhite x, Oracle o) {
        long[] now = o.now();
        long all = o.all();
        int favourite = -1;
        for (int p = 0; p < o.players; p++) {
            fraction(t, "likely " + p, x.likely(p, 0), x.likely(p, 1), now[p], all);
            favourite = favourite < 0 || now[p] > now[favourite] ? p : favourite;
            t.due("score", x.player(p, 0), o.score[p]);
        }
        t.due("favourite", x.favourite(), favourite);
        t.due("over now", x.now(1), o.over() ? 1 : 0);
        t.due("won", x.now(2), o.winner());
        fraction(t, "nobody", x.nobody(0), x.nobody(1), now[Oracle.NOBODY], all);
        fraction(t, "left", x.left(0), x.left(1), now[Oracle.YET], all);
        for (int n = 0; n <= 12; n++) {
            fraction(t, "over " + n, x.over(n, 0), x.over(n, 1), now[Oracle.OVER + n], all);
        }
        long[] w = o.weights();
        for (int l = 0; l < o.lands; l++) {
            fraction(t, "where " + l, x.where(l, 0), x.where(l, 1), w[l], Oracle.sum(w));
        }
        for (int c = -1; c < o.colours; c++) {
            long some = Oracle.sum(o.weightsWith(w, c < 0 ? 4 : c));
            fraction(t, "next " + c, x.next(c, 0), x.next(c, 1), some, 12 * Oracle.sum(w));
        }
        t.due("luck above", x.luck(0), Oracle.sum(w));
        long chances = 0;
        for (int l = 0; l < o.rows(); l++) {
            chances += o.chance[l];
        }
        t.due("luck below", x.luck(1), Oracle.twelve(o.came.size()) * chances);
    }

    private static void compareChoices(Checks t, RedWhite x, Oracle o) {
        long all = o.all();
        long[] now = o.now();
        int[] own = o.own.clone();
        long[] then = o.choose(0);
        int[] chosen = o.own;
        o.own = own;
        for (int p = 0; p < o.players; p++) {
            t.due("chosen " + p, x.chosen(p), chosen[p]);
            fraction(t, "chance " + p, x.chance(p, 0), x.chance(p, 1), then[p], all);
            int which = -1;
            long most = -1;
            for (int c = 0; c < o.colours; c++) {
                if (o.holder(c) >= 0) {
                    continue;
                }
                long instead = o.nowWith(p, c, true)[p];
                if (instead > most) {
                    most = instead;
                    which = c;
                }
                if (o.own[p] >= 0) {
                    long also = o.nowWith(p, c, false)[p] - now[p];
                    fraction(t, "also", x.also(p, c, 0), x.also(p, c, 1), also, all);
                }
            }
            t.due("which " + p, x.which(p), o.over() ? -1 : which);
            int[] to = {-1};
            long right = o.mayTurn(p) ? o.right(p, o.weights(), o.score, o.rest(), to) : now[p];
            fraction(t, "right " + p, x.right(p, 0), x.right(p, 1), right, all);
            t.due("best " + p, x.best(p), to[0]);
        }
    }

    private static void compareFair(Checks t, RedWhite x, Oracle o) {
        for (int p = 0; p < 3; p++) {
            int fair = -1;
            long least = Long.MAX_VALUE;
            for (int start = 0; start <= 8 && o.players == 2 && p < 2; start++) {
                int[] starts = o.start.clone();
                starts[p] = start;
                long[] out = o.first(starts, o.goal);
                if (Math.abs(out[0] - out[1]) < least) {
                    least = Math.abs(out[0] - out[1]);
                    fair = start;
                }
            }
            t.due("fair " + p, x.fair(p), fair);
        }
        int goal = -1;
        long least = Long.MAX_VALUE;
        for (int aim = 1; aim <= 9 && o.players == 2; aim++) {
            long[] out = o.first(o.start, aim);
            if (Math.abs(out[0] - out[1]) < least) {
                least = Math.abs(out[0] - out[1]);
                goal = aim;
            }
        }
        t.due("goal", x.goal(), goal);
    }
}
