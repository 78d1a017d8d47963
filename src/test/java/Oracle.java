import java.util.ArrayList;
import java.util.Arrays;
import java.util.HashMap;
import java.util.List;
import java.util.Map;
import java.util.Random;

/**
 * A second, slow telling of the document: cars are gone through one by one from each case, and what
 * came out of a case is kept, so that long roads end too. Chances are weights: a land's chance times
 * 12ths of each car, over all cars that may come.
 */
final class Oracle {
    int colours;
    int lands;
    int players;
    final int[] worth = new int[4];
    final boolean[] ends = new boolean[4];
    final int[] chance = {1, 0, 0};
    final int[][] cars = new int[3][5];
    final int[] start = new int[3];
    int goal = 9;
    int most = 12;
    boolean change;
    List<Integer> came = new ArrayList<>();
    int[] own = {-1, -1, -1};
    final boolean[] turned = new boolean[3];
    int[] score = new int[3];
    private final Map<String, long[]> known = new HashMap<>();

    /** What came out: wins of 0 to 2, nobody, cars yet, then over by the n-th car or sooner. */
    static final int NOBODY = 3;
    static final int YET = 4;
    static final int OVER = 5;

    static Oracle random(Random r, int mostCars) {
        Oracle o = new Oracle();
        o.colours = r.nextInt(5);
        o.lands = r.nextInt(4);
        o.players = r.nextInt(4);
        o.goal = 1 + r.nextInt(9);
        o.most = 1 + r.nextInt(mostCars);
        o.change = r.nextInt(4) > 0;
        for (int c = 0; c < o.colours; c++) {
            o.worth[c] = 1 + r.nextInt(3);
            o.ends[c] = r.nextInt(5) == 0;
        }
        for (int l = 0; l < 3; l++) {
            o.cars[l][4] = 12;
        }
        for (int l = 0; l < o.lands; l++) {
            o.chance[l] = 1 + r.nextInt(9);
            for (int c = 0; c < o.colours; c++) {
                o.cars[l][c] = Math.min(o.cars[l][4], r.nextInt(3) == 0 ? 0 : r.nextInt(6));
                o.cars[l][4] -= o.cars[l][c];
            }
        }
        for (int p = 0; p < o.players; p++) {
            o.start[p] = r.nextInt(3) == 0 ? r.nextInt(9) : r.nextInt(Math.min(o.goal, 9));
        }
        o.score = o.start.clone();
        return o;
    }

    String text() {
        StringBuilder s = new StringBuilder();
        for (int c = 0; c < colours; c++) {
            s.append("colour c").append((char) ('a' + c)).append(' ').append(worth[c]).append(';');
            if (ends[c]) {
                s.append("ends c").append((char) ('a' + c)).append(";\n");
            }
        }
        for (int l = 0; l < lands; l++) {
            s.append("land l").append((char) ('a' + l)).append(' ').append(chance[l]);
            for (int c = 0; c < colours; c++) {
                if (cars[l][c] > 0) {
                    s.append(" c").append((char) ('a' + c)).append(' ').append(cars[l][c]);
                }
            }
            s.append(" ;");
        }
        for (int p = 0; p < players; p++) {
            s.append("player p").append((char) ('a' + p)).append(' ').append(start[p]).append(';');
        }
        s.append("goal ").append(goal).append(";cars ").append(most).append(';');
        return s.append(change ? "change;" : "").toString();
    }

    int rows() {
        return Math.max(1, lands);
    }

    int holder(int c) {
        for (int p = 0; p < players; p++) {
            if (c >= 0 && own[p] == c) {
                return p;
            }
        }
        return -1;
    }

    long[] weights() {
        long[] w = new long[rows()];
        for (int l = 0; l < w.length; l++) {
            w[l] = chance[l];
            for (int c : came) {
                w[l] *= cars[l][c < 0 ? 4 : c];
            }
        }
        return w;
    }

    static long sum(long[] w) {
        long s = 0;
        for (long x : w) {
            s += x;
        }
        return s;
    }

    long[] weightsWith(long[] w, int kind) {
        long[] v = new long[w.length];
        for (int l = 0; l < w.length; l++) {
            v[l] = w[l] * cars[l][kind];
        }
        return v;
    }

    int atGoal(int[] scores, int aim) {
        for (int p = 0; p < players; p++) {
            if (scores[p] >= aim) {
                return p;
            }
        }
        return -1;
    }

    boolean over() {
        return atGoal(score, goal) >= 0 || came.size() >= most
            || !came.isEmpty() && came.get(came.size() - 1) >= 0 && ends[came.get(came.size() - 1)];
    }

    int mostOf(int[] scores) {
        int top = -1;
        int who = -1;
        int times = 0;
        for (int p = 0; p < players; p++) {
            top = Math.max(top, scores[p]);
        }
        for (int p = players - 1; p >= 0; p--) {
            if (scores[p] == top) {
                who = p;
                times++;
            }
        }
        return times == 1 ? who : -1;
    }

    int winner() {
        if (!over()) {
            return -1;
        }
        int first = atGoal(score, goal);
        return first >= 0 ? first : mostOf(score);
    }

    void come(int c) {
        came.add(c);
        int p = holder(c);
        if (p >= 0) {
            score[p] += worth[c];
        }
    }

    static long twelve(int n) {
        return n <= 0 ? 1 : 12 * twelve(n - 1);
    }

    /** All ends from scores on, with holders of colours by kinds. */
    long[] ends(long[] w, int[] scores, int[] holders, int aim, int rest, int gone) {
        String one = Arrays.toString(w) + Arrays.toString(scores) + Arrays.toString(holders) + aim + ' ' + rest + ' ' + gone;
        long[] out = known.get(one);
        if (out == null) {
            out = allEnds(w, scores, holders, aim, rest, gone);
            known.put(one, out);
        }
        return out;
    }

    private long[] allEnds(long[] w, int[] scores, int[] holders, int aim, int rest, int gone) {
        long[] out = new long[OVER + 13];
        int first = atGoal(scores, aim);
        if (first >= 0 || rest == 0) {
            settle(out, first >= 0 ? first : mostOf(scores), sum(w) * twelve(rest), gone);
            return out;
        }
        for (int kind = 0; kind < 5; kind++) {
            long[] v = weightsWith(w, kind);
            if (sum(v) == 0) {
                continue;
            }
            int[] next = scores.clone();
            if (holders[kind] >= 0) {
                next[holders[kind]] += worth[kind];
            }
            if (kind < 4 && ends[kind] && atGoal(next, aim) < 0) {
                settle(out, mostOf(next), sum(v) * twelve(rest - 1), gone + 1);
            } else {
                long[] more = ends(v, next, holders, aim, rest - 1, gone + 1);
                for (int i = 0; i < out.length; i++) {
                    out[i] += more[i];
                }
            }
        }
        return out;
    }

    private static void settle(long[] out, int who, long some, int gone) {
        out[who < 0 ? NOBODY : who] += some;
        out[YET] += gone * some;
        for (int n = gone; n <= 12; n++) {
            out[OVER + n] += some;
        }
    }

    int[] holders() {
        int[] h = new int[5];
        for (int c = 0; c < 5; c++) {
            h[c] = c < colours ? holder(c) : -1;
        }
        return h;
    }

    int rest() {
        return over() ? 0 : most - came.size();
    }

    long all() {
        return sum(weights()) * twelve(rest());
    }

    long[] now() {
        return ends(weights(), score, holders(), goal, rest(), 0);
    }

    long[] nowWith(int p, int c, boolean instead) {
        int[] h = holders();
        for (int k = 0; k < 5; k++) {
            if (instead && h[k] == p) {
                h[k] = -1;
            }
        }
        h[c] = p;
        return ends(weights(), score, h, goal, rest(), 0);
    }

    /** From the beginning, by other starts and another goal. */
    long[] first(int[] starts, int aim) {
        long[] w = new long[rows()];
        for (int l = 0; l < w.length; l++) {
            w[l] = chance[l];
        }
        return ends(w, starts, holders(), aim, most, 0);
    }

    boolean mayTurn(int p) {
        return !over() && change && own[p] >= 0 && !turned[p];
    }

    /** What it is worth to p, who may turn yet, before the next car; choice[0]: where he turns now. */
    long right(int p, long[] w, int[] scores, int rest, int[] choice) {
        String one = "right" + p + Arrays.toString(own) + Arrays.toString(w) + Arrays.toString(scores) + rest;
        long[] out = known.get(one);
        if (out == null) {
            long value = bestRight(p, w, scores, rest, choice);
            out = new long[] {value, choice[0]};
            known.put(one, out);
        }
        choice[0] = (int) out[1];
        return out[0];
    }

    private long bestRight(int p, long[] w, int[] scores, int rest, int[] choice) {
        int[] h = holders();
        long wait = 0;
        for (int kind = 0; kind < 5; kind++) {
            long[] v = weightsWith(w, kind);
            if (sum(v) == 0) {
                continue;
            }
            int[] next = scores.clone();
            if (h[kind] >= 0) {
                next[h[kind]] += worth[kind];
            }
            int who = atGoal(next, goal);
            if (who < 0 && rest > 1 && !(kind < 4 && ends[kind])) {
                wait += right(p, v, next, rest - 1, new int[1]);
            } else if ((who >= 0 ? who : mostOf(next)) == p) {
                wait += sum(v) * twelve(rest - 1);
            }
        }
        long best = wait;
        choice[0] = -1;
        for (int c = 0; c < colours; c++) {
            if (h[c] < 0) {
                int[] g = h.clone();
                g[own[p]] = -1;
                g[c] = p;
                long turning = ends(w, scores, g, goal, rest, 0)[p];
                if (turning > best) {
                    best = turning;
                    choice[0] = c;
                }
            }
        }
        return best;
    }

    /** What is taken in turn from p on; own is changed to it. */
    long[] choose(int p) {
        if (p == players) {
            return now();
        }
        if (own[p] >= 0) {
            return choose(p + 1);
        }
        int[] before = own.clone();
        int[] best = own.clone();
        long[] out = null;
        for (int c = 0; c < colours; c++) {
            own = before.clone();
            if (holder(c) < 0) {
                own[p] = c;
                long[] some = choose(p + 1);
                if (out == null || some[p] > out[p]) {
                    out = some;
                    best = own.clone();
                }
            }
        }
        if (out == null) {
            own = before.clone();
            out = choose(p + 1);
            best = own.clone();
        }
        own = best;
        return out;
    }
}
