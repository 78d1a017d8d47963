/** Promises 40 and 41: image, restore. */
final class ImageTest {
    public static void main(String[] args) {
        Checks t = new Checks();
        RedWhite x = t.on("colour a 2;colour b 1;land l 1 a 6 b 3;player p 1;player q 0;goal 8;change;");
        t.due("nothing is kept", x.restore(0), false);
        t.due("nothing is kept", x.restore(1), false);
        t.due("no such place", x.restore(-1), false);
        t.due("no such place", x.restore(2), false);
        t.due("no such place", x.image(-1), false);
        t.due("no such place", x.image(2), false);
        x.take(0, 0);
        x.come(0);
        x.turn(0, 1);
        t.due("a sentence", t.sentence(x, "has b"), 1);
        t.due("kept", x.image(1), true);
        t.due("still not kept", x.restore(0), false);
        t.due("an image takes nothing from what can be undone", x.undo(), 2);
        x.come(0);
        Checks.tell(x, new byte[] {5, 0});
        t.due("scores", x.scores(), 1);
        t.log(x, "comes a;comes b;", 0);
        Checks.tell(x, "player zoe 7;");
        t.due("another road", x.road(), 1);
        t.due("kept too", x.image(0), true);
        Checks.tell(x, "abc");
        t.due("restore 1", x.restore(1), true);
        t.due("the tape stays", x.count(6), 3);
        t.due("what was told last stays: took", x.took(0), 0);
        t.due("what was told last stays: logged", x.logged(1), 2);
        t.due("nothing can be undone", x.undo(), -1);
        t.due("road", x.count(3), 8);
        t.due("score", x.player(0, 0), 3);
        t.due("turned", x.player(0, 3), 1);
        t.due("colour", x.player(0, 2), 1);
        t.due("car", x.car(0), 0);
        t.due("cars", x.now(0), 1);
        t.due("said", x.said(0), 0);
        t.fraction("where", x.where(0, 0), x.where(0, 1), 1, 1);
        x.end(0);
        t.due("its names are known", t.log(x, "q takes a;comes a;", 1), -1);
        t.due("score", x.player(1, 0), 2);
        t.due("restore again", x.restore(1), true);
        t.due("as it was", x.player(1, 0), 0);
        t.due("q has none", x.player(1, 2), -1);
        t.logFault(x, "zoe takes a;", 3, 0);
        t.due("restore 0", x.restore(0), true);
        t.due("the fault stays", x.fault(), 3);
        t.due("start", x.player(0, 1), 7);
        t.due("no sentence", x.said(-1), -1);
        t.due("players", x.count(2), 1);
        x.come(-1);
        t.due("kept anew", x.image(0), true);
        t.due("restore 1", x.restore(1), true);
        t.due("restore 0", x.restore(0), true);
        t.due("the newer one", x.now(0), 1);
        t.finish();
    }
}
