import java.util.Random;

/** Promises 29 and 30: scores, took. */
final class ScoresTest {
    public static void main(String[] args) {
        Checks t = new Checks();
        byHand(t);
        bySeed(t);
        t.finish();
    }

    private static void byHand(Checks t) {
        RedWhite x = t.on("colour a 1;colour b 2;colour d 1;land l 1 a 4 b 4 d 4;player p 0;player q 1;");
        t.due("took ahead of any", x.took(0), -1);
        Checks.tell(x, new byte[] {0, 1});
        t.due("nothing came: any two", x.scores(), 6);
        t.due("the tape is empty", x.count(6), 0);
        t.due("the first way", x.took(0), 0);
        t.due("the first way", x.took(1), 1);
        t.due("no such one", x.took(2), -1);
        t.due("no such one", x.took(-1), -1);
        x.take(0, 0);
        x.come(0);
        x.come(1);
        x.come(2);
        Checks.tell(x, new byte[] {1, 2});
        t.due("a and d, d and a", x.scores(), 2);
        t.due("first a", x.took(0), 0);
        t.due("then d", x.took(1), 2);
        Checks.tell(x, new byte[] {2, 2});
        t.due("b and a, b and d", x.scores(), 2);
        t.due("first b", x.took(0), 1);
        t.due("then a", x.took(1), 0);
        Checks.tell(x, new byte[] {2, 3});
        t.due("b by two", x.scores(), 0);
        t.due("the latest that was 1 or more", x.took(1), 0);
        Checks.tell(x, new byte[] {2});
        t.due("too short", x.scores(), -1);
        t.due("the tape is empty", x.count(6), 0);
        Checks.tell(x, new byte[] {2, 2, 2});
        t.due("too long", x.scores(), -1);
        t.due("the tape is empty", x.count(6), 0);
        t.due("none told", x.scores(), -1);
        t.due("it stays", x.took(0), 1);
        Checks.tell(x, "player p 0;player q 0;player r 0;");
        t.due("another road", x.road(), 3);
        t.due("it stays", x.took(0), 1);
        t.due("who was not there took none", x.took(2), -1);
        RedWhite none = t.on("colour a 1;");
        t.due("no players", none.scores(), -1);
        RedWhite few = t.on("colour a 1;player p 0;player q 0;");
        Checks.tell(few, new byte[] {0, 0});
        t.due("too few colours", few.scores(), 0);
        // Whoever won: to the end of what came, also beyond the goal; a turn does not matter.
        RedWhite over = t.on("colour a 3;land l 1 a 6;player p 1;player q 0;goal 3;");
        over.take(0, 0);
        over.come(0);
        Checks.tell(over, new byte[] {4, 0});
        t.due("q has none", over.scores(), 0);
        RedWhite one = t.on("colour a 3;colour b 1;land l 1 a 6;player p 1;goal 4;");
        one.come(0);
        one.come(0);
        Checks.tell(one, new byte[] {7});
        t.due("beyond the goal", one.scores(), 1);
        t.due("took", one.took(0), 0);
        Checks.tell(one, new byte[] {(byte) 255});
        t.due("255 is not -1", one.scores(), 0);
    }

    private static void bySeed(Checks t) {
        Random r = new Random(7);
        for (int i = 0; i < 300; i++) {
            Oracle o = Oracle.random(r, 12);
            RedWhite x = t.on(o.text());
            for (int k = 0; k < 12; k++) {
                x.come(r.nextInt(5) - 1);
            }
            byte[] told = new byte[o.players];
            for (int p = 0; p < o.players; p++) {
                int c = o.colours == 0 ? -1 : r.nextInt(o.colours);
                told[p] = (byte) (o.start[p] + (c < 0 ? 0 : o.worth[c] * x.colour(c, 3)));
            }
            Checks.tell(x, told);
            compare(t, x, o, told);
        }
    }

    private static void compare(Checks t, RedWhite x, Oracle o, byte[] told) {
        int ways = 0;
        int[] first = {-1, -1, -1};
        for (int a = 0; a < Math.max(1, o.colours); a++) {
            for (int b = 0; b < (o.players > 1 ? o.colours : 1); b++) {
                for (int d = 0; d < (o.players > 2 ? o.colours : 1); d++) {
                    int[] way = {a, b, d};
                    if (fits(x, o, told, way)) {
                        ways++;
                        if (ways == 1) {
                            first = way;
                        }
                    }
                }
            }
        }
        t.due("ways", x.scores(), o.players == 0 ? -1 : ways);
        for (int p = 0; p < o.players; p++) {
            t.due("took " + p, x.took(p), first[p]);
        }
    }

    private static boolean fits(RedWhite x, Oracle o, byte[] told, int[] way) {
        boolean fits = o.colours > 0;
        for (int p = 0; p < o.players && fits; p++) {
            fits = told[p] == o.start[p] + o.worth[way[p]] * x.colour(way[p], 3);
            for (int q = 0; q < p; q++) {
                fits &= way[p] != way[q];
            }
        }
        return fits;
    }
}
