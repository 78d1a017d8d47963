/** Promises 14 to 28 and 33 by hand: values that can be told, edges, and what is refused. */
final class QueryTest {
    private static final String ROAD = "colour red 1;colour blue 1;colour fire 3;land home 1 red 6 blue 4;"
        + "land away 2 red 3 fire 3;player ann 0;player bob 1;goal 2;cars 2;change;";

    public static void main(String[] args) {
        Checks t = new Checks();
        refusals(t);
        noPlayers(t);
        overAlready(t);
        likelihoods(t);
        fresh(t);
        lengths(t);
        choices(t);
        fairness(t);
        rights(t);
        greatest(t);
        t.finish();
    }

    private static void refusals(Checks t) {
        RedWhite x = t.on(ROAD);
        x.take(0, 0);
        x.take(1, 1);
        int[] wrong = {-1, 2, Integer.MIN_VALUE, Integer.MAX_VALUE};
        for (int w : wrong) {
            t.refused("likely " + w, () -> x.likely(w, 0));
            t.refused("likely 0 " + w, () -> x.likely(0, w));
            t.refused("nobody " + w, () -> x.nobody(w));
            t.refused("where " + w, () -> x.where(w, 0));
            t.refused("where 0 " + w, () -> x.where(0, w));
            t.refused("next 0 " + w, () -> x.next(0, w));
            t.refused("left " + w, () -> x.left(w));
            t.refused("over 0 " + w, () -> x.over(0, w));
            t.refused("chance " + w, () -> x.chance(w, 0));
            t.refused("chance 0 " + w, () -> x.chance(0, w));
            t.refused("right " + w, () -> x.right(w, 0));
            t.refused("right 0 " + w, () -> x.right(0, w));
            t.refused("also " + w, () -> x.also(w, 2, 0));
            t.refused("also 0 2 " + w, () -> x.also(0, 2, w));
            t.refused("luck " + w, () -> x.luck(w));
            t.due("chosen " + w, x.chosen(w), -1);
            t.due("which " + w, x.which(w), -1);
            t.due("fair " + w, x.fair(w), -1);
            t.due("best " + w, x.best(w), -1);
        }
        t.refused("over -1", () -> x.over(-1, 0));
        t.refused("over 13", () -> x.over(13, 0));
        t.refused("next -2", () -> x.next(-2, 0));
        t.refused("next 3", () -> x.next(3, 0));
        t.refused("also: his own", () -> x.also(0, 0, 0));
        t.refused("also: taken", () -> x.also(0, 1, 0));
        t.refused("also: no such colour", () -> x.also(0, 3, 0));
        t.refused("also: grey", () -> x.also(0, -1, 0));
        x.undo();
        t.refused("also: he has none yet", () -> x.also(1, 2, 0));
        t.due("nothing changed", x.undo(), 0);
    }

    private static void noPlayers(Checks t) {
        RedWhite x = t.on("colour a 1;ends a;land l 1 a 3;cars 2;");
        t.fraction("nobody", x.nobody(0), x.nobody(1), 1, 1);
        t.due("favourite", x.favourite(), -1);
        t.due("chosen", x.chosen(0), -1);
        t.due("goal", x.goal(), -1);
        t.fraction("over 1", x.over(1, 0), x.over(1, 1), 1, 4);
        t.fraction("left", x.left(0), x.left(1), 7, 4);
        t.refused("likely", () -> x.likely(0, 0));
        RedWhite y = t.on("colour a 1;player p 0;player q 0;");
        t.fraction("without lands next grey", y.next(-1, 0), y.next(-1, 1), 1, 1);
        t.fraction("without lands next a", y.next(0, 0), y.next(0, 1), 0, 1);
        t.fraction("without lands nobody", y.nobody(0), y.nobody(1), 1, 1);
        t.refused("without lands where", () -> y.where(0, 0));
        t.fraction("without lands left", y.left(0), y.left(1), 12, 1);
    }

    private static void overAlready(Checks t) {
        RedWhite x = t.on("colour a 1;colour b 1;land l 1 a 3;land m 1 b 3;player p 1;player q 3;goal 3;change;");
        t.fraction("likely 0", x.likely(0, 0), x.likely(0, 1), 0, 1);
        t.fraction("likely 1", x.likely(1, 0), x.likely(1, 1), 1, 1);
        t.fraction("nobody", x.nobody(0), x.nobody(1), 0, 1);
        t.fraction("left", x.left(0), x.left(1), 0, 1);
        t.fraction("over", x.over(0, 0), x.over(0, 1), 1, 1);
        t.due("favourite", x.favourite(), 1);
        t.due("which", x.which(0), -1);
        t.due("best", x.best(0), -1);
        t.fraction("right", x.right(1, 0), x.right(1, 1), 1, 1);
        t.fraction("next", x.next(0, 0), x.next(0, 1), 1, 8);
        t.fraction("chance", x.chance(1, 0), x.chance(1, 1), 1, 1);
        RedWhite y = t.on("colour a 1;colour b 1;land l 1 a 3;player p 2;player q 2;cars 1;change;");
        y.take(0, 0);
        y.come(-1);
        t.fraction("nobody", y.nobody(0), y.nobody(1), 1, 1);
        t.due("favourite of like ones", y.favourite(), 0);
        t.fraction("also when over", y.also(0, 1, 0), y.also(0, 1, 1), 0, 1);
        t.fraction("over 12", y.over(12, 0), y.over(12, 1), 1, 1);
    }

    private static void likelihoods(Checks t) {
        RedWhite x = t.on(ROAD);
        x.take(0, 0);
        x.take(1, 1);
        t.fraction("ann", x.likely(0, 0), x.likely(0, 1), 1, 8);
        t.fraction("bob", x.likely(1, 0), x.likely(1, 1), 41, 72);
        t.fraction("nobody", x.nobody(0), x.nobody(1), 11, 36);
        t.fraction("home", x.where(0, 0), x.where(0, 1), 1, 3);
        t.fraction("next fire", x.next(2, 0), x.next(2, 1), 1, 6);
        t.fraction("luck", x.luck(0), x.luck(1), 3, 3);
        x.come(0);
        t.fraction("home by red", x.where(0, 0), x.where(0, 1), 1, 2);
        t.fraction("luck by red", x.luck(0), x.luck(1), 12, 36);
        x.come(2);
        t.fraction("home by fire", x.where(0, 0), x.where(0, 1), 0, 1);
        t.fraction("away by fire", x.where(1, 0), x.where(1, 1), 1, 1);
        t.fraction("luck by fire", x.luck(0), x.luck(1), 18, 432);
    }

    /** Each answer is by how it is now, whichever call came ahead of it. */
    private static void fresh(Checks t) {
        RedWhite x = t.on("colour a 1;colour b 3;land l 1 a 3 b 9;player p 0;player q 0;goal 3;change;");
        t.due("favourite at first", x.favourite(), 0);
        x.take(1, 1);
        t.due("favourite by b", x.favourite(), 1);
        x.undo();
        t.due("favourite when undone", x.favourite(), 0);
        x.take(0, 0);
        t.fraction("also at once", x.also(0, 1, 0), x.also(0, 1, 1), x.likely(0, 1) - x.likely(0, 0), x.likely(0, 1));
        t.due("best", x.best(0), 1);
        t.due("chosen", x.chosen(1), 1);
        x.turn(0, 1);
        t.due("chosen then", x.chosen(1), 0);
        t.due("best then", x.best(0), -1);
        t.due("right then", x.right(0, 0), x.likely(0, 0));
        t.due("chance then", x.chance(0, 0) > 0, true);
        x.come(1);
        t.fraction("chance at last", x.chance(0, 0), x.chance(0, 1), 1, 1);
        t.fraction("left at last", x.left(0), x.left(1), 0, 1);
        x.undo();
        t.due("over behind none", x.over(0, 0), 0);
        t.log(x, "comes b;", 1);
        t.due("over by a log", x.over(0, 0), 1);
        x.undo();
        t.due("nobody", x.nobody(0) < x.nobody(1), true);
        x.drawn(1);
        t.due("over by draws", x.over(0, 0), 1);
    }

    private static void lengths(Checks t) {
        RedWhite x = t.on("colour a 1;land l 1 a 6;player p 0;goal 2;cars 3;");
        x.take(0, 0);
        t.fraction("left", x.left(0), x.left(1), 11, 4);
        t.fraction("over 1", x.over(1, 0), x.over(1, 1), 0, 1);
        t.fraction("over 2", x.over(2, 0), x.over(2, 1), 1, 4);
        t.fraction("over 3", x.over(3, 0), x.over(3, 1), 1, 1);
        t.fraction("over 12", x.over(12, 0), x.over(12, 1), 1, 1);
        x.come(0);
        t.fraction("over 1 now", x.over(1, 0), x.over(1, 1), 1, 2);
        t.fraction("left now", x.left(0), x.left(1), 3, 2);
    }

    private static void choices(Checks t) {
        RedWhite x = t.on("colour a 1;colour b 1;land l 1 a 2 b 5;player p 0;player q 0;player r 0;goal 1;");
        t.due("the first takes the likelier", x.chosen(0), 1);
        t.due("the second takes what is left", x.chosen(1), 0);
        t.due("none is left", x.chosen(2), -1);
        t.due("no such one", x.chosen(3), -1);
        t.due("which", x.which(2), 1);
        x.take(2, 1);
        t.due("his own", x.chosen(2), 1);
        t.due("the first of the free", x.chosen(0), 0);
        t.due("none for the second", x.chosen(1), -1);
        t.due("which instead of his own", x.which(2), 0);
        x.take(0, 0);
        t.due("no free one", x.which(2), -1);
        // Instead of his own, not with it: by both it would be d, which is where a is not.
        RedWhite own = t.on("colour a 1;colour b 1;colour d 1;land l 1 a 6 b 6;land m 1 d 5;player p 0;player q 0;goal 1;cars 3;");
        own.take(0, 0);
        t.due("which without his own", own.which(0), 1);
        t.due("with his own it would be d", own.also(0, 2, 0) * own.also(0, 1, 1) > own.also(0, 1, 0) * own.also(0, 2, 1), true);
        RedWhite y = t.on("colour a 1;colour b 1;colour d 1;land l 1 a 3 b 3 d 3;player p 0;player q 0;");
        t.due("of like ones the first", y.chosen(0), 0);
        t.due("of like ones the next", y.chosen(1), 1);
        t.due("which of like ones", y.which(1), 0);
        t.due("chance as likely", y.chance(0, 1) == y.chance(1, 1) && y.chance(0, 0) == y.chance(1, 0), true);
    }

    private static void fairness(Checks t) {
        RedWhite x = t.on(ROAD);
        x.take(0, 0);
        x.take(1, 1);
        t.due("fair start", x.fair(0), 1);
        t.due("fair goal", x.goal(), 2);
        x.come(0);
        t.due("fair from the beginning", x.fair(0), 1);
        t.due("fair goal from the beginning", x.goal(), 2);
        RedWhite like = t.on("colour a 1;colour b 1;land l 1 a 4 b 4;player p 5;player q 3;goal 7;");
        like.take(0, 0);
        like.take(1, 1);
        t.due("as the other one", like.fair(0), 3);
        t.due("as the other one", like.fair(1), 5);
        RedWhite none = t.on("colour a 1;land l 1 a 4;player p 2;player q 2;");
        t.due("without colours", none.fair(0), 2);
        t.due("goal without colours: like at any", none.goal(), 3);
        RedWhite far = t.on("colour a 1;colour b 3;land l 1 a 1 b 4;player p 8;player q 0;");
        far.take(0, 0);
        far.take(1, 1);
        t.due("fair goal 9", far.goal(), 9);
        t.due("fair start 8", t.on("player p 1;player q 8;").fair(0), 8);
        t.due("fair start 0", t.on("player p 1;player q 0;").fair(0), 0);
        RedWhite one = t.on("colour a 1;land l 1 a 4;player p 2;");
        t.due("one player", one.fair(0), -1);
        t.due("one player", one.goal(), -1);
        RedWhite three = t.on("player p 2;player q 0;player r 0;");
        t.due("three players", three.fair(0), -1);
        t.due("three players", three.goal(), -1);
    }

    private static void rights(Checks t) {
        RedWhite x = t.on(ROAD);
        t.fraction("he has none yet", x.right(0, 0), x.right(0, 1), x.likely(0, 0), x.likely(0, 1));
        x.take(0, 0);
        x.take(1, 1);
        t.fraction("right", x.right(0, 0), x.right(0, 1), 7, 24);
        t.due("best", x.best(0), 2);
        x.turn(0, 2);
        t.due("turned", x.best(0), -1);
        t.fraction("right when turned", x.right(0, 0), x.right(0, 1), x.likely(0, 0), x.likely(0, 1));
        // It is best to wait: the first car tells the land, and then it is sure what is best.
        RedWhite w = t.on("colour a 1;colour b 1;colour s 1;colour u 1;land l 1 a 6 s 6;land m 1 b 6 u 6;"
            + "player p 0;player q 1;goal 3;cars 5;change;");
        w.take(0, 0);
        t.due("wait", w.best(0), -1);
        t.due("right is more than likely", w.right(0, 0) * w.likely(0, 1) > w.likely(0, 0) * w.right(0, 1), true);
        w.come(3);
        t.due("then turn", w.best(0), 1);
        RedWhite no = t.on("colour a 1;colour b 3;land l 1 a 1 b 9;player p 0;player q 0;");
        no.take(0, 0);
        t.due("without change", no.best(0), -1);
        t.fraction("without change", no.right(0, 0), no.right(0, 1), no.likely(0, 0), no.likely(0, 1));
        // Like ones: to wait; and of like colours the first.
        RedWhite like = t.on("colour a 1;colour b 1;land l 1 a 4 b 4;player p 0;player q 1;cars 2;change;");
        like.take(0, 0);
        t.due("like is no reason", like.best(0), -1);
        RedWhite first = t.on("colour a 1;colour b 1;colour d 1;land l 1 b 4 d 4;player p 0;player q 1;goal 2;cars 2;change;");
        first.take(0, 0);
        t.due("the first of like ones", first.best(0), 1);
    }

    /** The longest numbers there are: all lands, all cars; parts add up to 1. */
    private static void greatest(Checks t) {
        RedWhite x = t.on("colour a 1;colour b 1;colour d 1;colour e 1;land l 9 a 3 b 3 d 3 e 2;"
            + "land m 9 a 1 b 2 d 3 e 5;land n 9 a 4 b 3 d 2 e 2;player p 0;player q 0;player r 0;change;");
        x.take(0, 0);
        x.take(1, 1);
        x.take(2, 2);
        long below = 27 * 8916100448256L;
        long sum = x.nobody(0) * (below / x.nobody(1));
        for (int p = 0; p < 3; p++) {
            t.due("below divides", below % x.likely(p, 1), 0);
            sum += x.likely(p, 0) * (below / x.likely(p, 1));
            t.due("right is no less", x.right(p, 0) / (double) x.right(p, 1) >= x.likely(p, 0) / (double) x.likely(p, 1), true);
        }
        t.due("all together", sum, below);
        t.due("not all are over behind 11", x.over(11, 0) < x.over(11, 1), true);
        t.fraction("over behind 12", x.over(12, 0), x.over(12, 1), 1, 1);
        for (int i = 0; i < 12; i++) {
            x.come(i % 4);
        }
        t.due("luck below", x.luck(1), below);
        t.due("luck above", x.luck(0), 9L * (27 * 27 * 27 * 8 + 1 * 8 * 27 * 125 + 64 * 27 * 8 * 8));
    }
}
