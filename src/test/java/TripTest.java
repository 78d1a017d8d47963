/** Promises 8 to 13, 31 and 32: player, now, take, turn, come, undo, car, row. */
final class TripTest {
    public static void main(String[] args) {
        Checks t = new Checks();
        players(t);
        taking(t);
        turning(t);
        coming(t);
        ending(t);
        undoing(t);
        cars(t);
        t.finish();
    }

    private static void players(Checks t) {
        RedWhite x = t.on("colour a 2;land l 1 a 6;player p 3;player q 8;change;");
        t.due("score", x.player(0, 0), 3);
        t.due("start", x.player(1, 1), 8);
        t.due("has none", x.player(0, 2), -1);
        t.due("did not turn", x.player(0, 3), 0);
        t.refused("player -1", () -> x.player(-1, 0));
        t.refused("player 2", () -> x.player(2, 0));
        t.refused("what -1", () -> x.player(0, -1));
        t.refused("what 4", () -> x.player(0, 4));
        x.take(0, 0);
        x.come(0);
        t.due("score by 2", x.player(0, 0), 5);
        t.due("start stays", x.player(0, 1), 3);
        t.due("has it", x.player(0, 2), 0);
        t.due("who has most", x.now(3), 1);
        t.due("now -1", x.now(-1), -1);
        t.due("now 5", x.now(5), -1);
    }

    private static void taking(Checks t) {
        RedWhite x = t.on("colour a 1;colour b 1;land l 1 a 4 b 4;player p 0;player q 0;player r 0;cars 1;");
        t.due("no player", x.take(3, 0), -1);
        t.due("no player", x.take(-1, 0), -1);
        t.due("no colour", x.take(0, 2), -1);
        t.due("no colour", x.take(0, -1), -1);
        t.due("takes", x.take(2, 1), 0);
        t.due("has one", x.take(2, 0), 2);
        t.due("has one, it is taken too", x.take(2, 1), 2);
        t.due("it is taken", x.take(0, 1), 3);
        t.due("turn without change", x.turn(2, 0), 2);
        t.due("comes", x.come(1), 0);
        t.due("over", x.take(0, 0), 1);
        t.due("over, has one", x.take(2, 1), 1);
        t.due("over turn", x.turn(2, 0), 1);
        t.due("no such one, over", x.take(0, 2), -1);
        t.due("who won", x.now(2), 2);
    }

    private static void turning(Checks t) {
        RedWhite x = t.on("colour a 1;colour b 2;colour d 1;land l 1 a 4 b 4;player p 0;player q 0;change;");
        t.due("no player", x.turn(2, 0), -1);
        t.due("no colour", x.turn(0, 3), -1);
        t.due("no colour", x.turn(0, -1), -1);
        t.due("has none yet", x.turn(0, 0), 3);
        x.take(0, 0);
        x.take(1, 2);
        t.due("his own", x.turn(0, 0), 4);
        t.due("taken", x.turn(0, 2), 4);
        x.come(0);
        t.due("turns", x.turn(0, 1), 0);
        t.due("turned", x.player(0, 3), 1);
        t.due("his colour", x.player(0, 2), 1);
        t.due("his score stays", x.player(0, 0), 1);
        t.due("again", x.turn(0, 0), 3);
        x.come(0);
        t.due("the old one counts no more", x.player(0, 0), 1);
        x.come(1);
        t.due("the new one counts", x.player(0, 0), 3);
        t.due("the old one is free", x.turn(1, 0), 0);
        t.due("what was free", x.colour(2, 2), -1);
    }

    private static void coming(Checks t) {
        RedWhite x = t.on("colour a 1;colour b 1;colour d 1;land l 1 a 6 d 6;land m 1 b 6;player p 0;");
        t.due("no such one", x.come(3), -1);
        t.due("no such one", x.come(-2), -1);
        t.due("a comes: it is l", x.come(0), 0);
        t.due("b can't come now", x.come(1), 2);
        t.due("grey can't come now", x.come(-1), 2);
        t.due("d comes", x.come(2), 0);
        t.due("cars that came", x.now(0), 2);
        t.due("grey ones", x.now(4), 0);
        RedWhite y = t.on("colour a 1;");
        t.due("without lands a colour", y.come(0), 2);
        t.due("without lands grey", y.come(-1), 0);
        t.due("grey ones", y.now(4), 1);
        t.due("no players: who has most", y.now(3), -1);
    }

    private static void ending(Checks t) {
        RedWhite x = t.on("colour a 3;colour b 1;ends b;land l 1 a 4 b 4;player p 0;player q 1;goal 3;cars 3;");
        x.take(0, 0);
        x.take(1, 1);
        t.due("not over", x.now(1), 0);
        t.due("not won", x.now(2), -1);
        x.come(0);
        t.due("goal: over", x.now(1), 1);
        t.due("goal: won", x.now(2), 0);
        t.due("over: none comes", x.come(0), 1);
        t.due("over: none such comes", x.come(2), -1);
        x.undo();
        x.come(1);
        t.due("ends: over", x.now(1), 1);
        t.due("ends: who has most", x.now(2), 1);
        x.undo();
        x.come(-1);
        x.come(-1);
        t.due("not over by 2", x.now(1), 0);
        x.come(-1);
        t.due("over by 3", x.now(1), 1);
        t.due("by 3: who has most", x.now(2), 1);
        RedWhite tie = t.on("player p 2;player q 2;player r 1;cars 1;");
        t.due("of like ones the first", tie.now(3), 0);
        tie.come(-1);
        t.due("two have most", tie.now(2), -1);
        RedWhite first = t.on("player p 4;player q 6;player r 6;goal 5;");
        t.due("over at first", first.now(1), 1);
        t.due("the first who has the goal", first.now(2), 1);
        t.due("grey at the end", first.come(-1), 1);
        RedWhite one = t.on("player p 0;cars 1;");
        one.come(-1);
        t.due("alone he has most", one.now(2), 0);
        // Reaching the goal by a colour that ends it, behind one who has more than he: he who has the goal won.
        RedWhite both = t.on("colour a 3;ends a;land l 1 a 12;player p 0;player q 2;goal 3;");
        both.take(0, 0);
        both.come(0);
        t.due("goal by the last one", both.now(2), 0);
    }

    private static void undoing(Checks t) {
        RedWhite x = t.on("colour a 1;colour b 1;land l 1 a 4 b 4;player p 0;player q 0;change;");
        t.due("nothing", x.undo(), -1);
        x.take(0, 0);
        x.take(0, 1);
        x.come(5);
        t.due("what was not done is not undone", x.undo(), 0);
        t.due("he has none", x.player(0, 2), -1);
        t.due("none more", x.undo(), -1);
        x.take(0, 0);
        x.come(0);
        x.turn(0, 1);
        for (int i = 0; i < 6; i++) {
            x.come(1);
        }
        t.due("score", x.player(0, 0), 7);
        for (int left = 7; left >= 2; left--) {
            t.due("undo " + left, x.undo(), left);
        }
        t.due("score", x.player(0, 0), 1);
        t.due("undo turn", x.undo(), 1);
        t.due("did not turn", x.player(0, 3), 0);
        t.due("his colour", x.player(0, 2), 0);
        t.due("undo a car", x.undo(), 0);
        t.due("score", x.player(0, 0), 0);
        t.due("eight are kept", x.undo(), -1);
        t.due("his colour stays", x.player(0, 2), 0);
        t.due("a sentence", t.sentence(x, "has a"), 1);
        x.come(0);
        x.undo();
        t.due("the sentence stays", x.said(0), 0);
        x.drawn(5);
        t.due("over", x.now(1), 1);
        t.due("a drawn trip is one act", x.undo(), 0);
        t.due("nothing came", x.now(0), 0);
        t.due("log", t.log(x, "q takes b;comes a;comes b;", 1), -1);
        t.due("cars", x.now(0), 2);
        t.due("a log is one act", x.undo(), 0);
        t.due("nothing came", x.now(0), 0);
        t.due("nobody has b", x.colour(1, 2), -1);
        t.log(x, "q takes b;comes a;comes b;", 0);
        t.due("a judged log is no act", x.undo(), -1);
        t.log(x, "q takes b;comes a;q takes a;", 1);
        t.due("a log lived in part", x.now(0), 1);
        t.due("undone", x.undo(), 0);
        t.due("nothing came", x.now(0), 0);
    }

    private static void cars(Checks t) {
        RedWhite x = t.on("colour a 1;colour b 1;land l 1 a 4 b 4;");
        t.due("no car", x.car(0), -2);
        t.due("no row", x.row(), 0);
        int[] came = {0, 0, -1, -1, -1, 0, 1, 1, 1, -1, 1, 0};
        int[] rows = {1, 2, 2, 2, 2, 2, 2, 2, 3, 3, 3, 3};
        for (int i = 0; i < came.length; i++) {
            x.come(came[i]);
            t.due("car " + i, x.car(i), came[i]);
            t.due("row " + i, x.row(), rows[i]);
        }
        t.due("car -1", x.car(-1), -2);
        t.due("car 12", x.car(12), -2);
        t.due("grey ones", x.now(4), 4);
        t.due("over by twelve", x.now(1), 1);
        RedWhite y = t.on("colour a 1;colour b 1;land l 1 a 4 b 4;");
        y.come(0);
        y.come(-1);
        y.come(0);
        t.due("grey parts a row", y.row(), 1);
    }
}
