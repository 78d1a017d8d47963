/** Promises 4 to 7: road, fault, colour, land; and the terms of tokens and faults. */
final class RoadTest {
    private static final String FOUR = "colour a 1;colour b 1;colour d 1;colour e 1;";

    public static void main(String[] args) {
        Checks t = new Checks();
        good(t);
        strangeTokens(t);
        wrongNumbers(t);
        wrongNames(t);
        tooMany(t);
        lengths(t);
        stays(t);
        told(t);
        t.finish();
    }

    private static void good(Checks t) {
        RedWhite x = new RedWhite();
        t.due("empty road", x.road(), 0);
        Checks.tell(x, " \n ");
        t.due("blank road", x.road(), 0);
        Checks.tell(x, "colour\nabcdefg 03;ends abcdefg;land l 09 abcdefg 12;player p 08;goal 09;cars 01 ;change ; ");
        t.due("road with blanks", x.road(), 7);
        t.due("no fault", x.fault(), 0);
        t.due("count", x.colour(0, 0), 3);
        Checks.tell(x, FOUR + "land l 1 a 3 b 3 d 3 e 3;land m 1;land n 1 e 12;");
        t.due("full lands", x.road(), 7);
        Checks.tell(x, "colour colours 1;player greys 1;land on 1;");
        t.due("names like words", x.road(), 3);
    }

    private static void strangeTokens(Checks t) {
        RedWhite x = new RedWhite();
        t.roadFault("Goal 1;", 1, 0);
        t.roadFault("goal 1;;", 1, 7);
        t.roadFault(";", 1, 0);
        t.roadFault("goal 1", 1, 6);
        t.roadFault("goal 1  ", 1, 8);
        t.roadFault("goal", 1, 4);
        t.roadFault("goal ;", 1, 5);
        t.roadFault("goal x;", 1, 5);
        t.roadFault("goal 123;", 1, 5);
        t.roadFault("goal 001;", 1, 5);
        t.roadFault("goal 1a;", 1, 5);
        t.roadFault("goal1;", 1, 0);
        t.roadFault("goal\t1;", 1, 4);
        t.roadFault("goal -1;", 1, 5);
        t.roadFault("goal 1.", 1, 6);
        t.roadFault("goal 1 2;", 1, 7);
        t.roadFault("change 1;", 1, 7);
        t.roadFault("colour abcdefgh 1;", 1, 7);
        t.roadFault("colour 1 1;", 1, 7);
        t.roadFault("colour a;", 1, 8);
        t.roadFault("colour a b;", 1, 9);
        t.roadFault("ends 1;", 1, 5);
        t.roadFault("colour a 1;ends a 1;", 1, 18);
        t.roadFault("land l;", 1, 6);
        t.roadFault("colour a 1;land l 1 a;", 1, 21);
        t.roadFault("colour a 1;land l 1 1;", 1, 20);
        t.roadFault("colour a 1;land l 1 a 1 1;", 1, 24);
        t.roadFault("colour a 1;land l 1 grey 1;", 1, 20);
        t.roadFault(FOUR + "land l 1 a 1 b 1 d 1 e 1 1;", 1, 69);
        t.roadFault(FOUR + "land l 1 a 1 b 1 d 1 e 1 goal;", 1, 69);
        t.roadFault("foo 1;", 1, 0);
        t.roadFault("takes a;", 1, 0);
        t.roadFault("(", 1, 0);
        t.roadFault("colour a 1;a 1;", 1, 11);
        for (String word : ("colour ends land player goal cars change takes turns comes grey or and not leads won has "
            + "turned score start needs number").split(" ")) {
            t.roadFault("colour " + word + " 1;", 1, 7);
            t.roadFault("land " + word + " 1;", 1, 5);
            t.roadFault("player " + word + " 1;", 1, 7);
        }
        x.feed(0xE9000000, 0, 0, 0, 0);
        x.end(1);
        t.due("a byte of 233", x.road(), -1);
        t.due("its fault", x.fault(), 1);
    }

    private static void wrongNumbers(Checks t) {
        t.roadFault("colour a 0;", 2, 9);
        t.roadFault("colour a 4;", 2, 9);
        t.roadFault("land l 0;", 2, 7);
        t.roadFault("land l 10;", 2, 7);
        t.roadFault("player p 9;", 2, 9);
        t.roadFault("goal 0;", 2, 5);
        t.roadFault("goal 10;", 2, 5);
        t.roadFault("cars 0;", 2, 5);
        t.roadFault("cars 13;", 2, 5);
        t.roadFault("colour a 1;land l 1 a 0;", 2, 22);
        t.roadFault("colour a 1;land l 1 a 13;", 2, 22);
        t.roadFault("colour a 1;colour b 1;land l 1 a 12 b 1;", 2, 38);
        t.roadFault("colour a 1;colour b 1;land l 1 a 6 b 7;", 2, 37);
    }

    private static void wrongNames(Checks t) {
        t.roadFault("colour a 1;colour a 1;", 3, 18);
        t.roadFault("colour a 1;land a 1;", 3, 16);
        t.roadFault("land a 1;player a 1;", 3, 16);
        t.roadFault("player a 1;colour a 1;", 3, 18);
        t.roadFault("ends a;", 3, 5);
        t.roadFault("land a 1;ends a;", 3, 14);
        t.roadFault("colour a 1;ends a;ends a;", 3, 23);
        t.roadFault("land l 1 a 1;", 3, 9);
        t.roadFault("land l 1 l 1;", 3, 9);
        t.roadFault("colour a 1;land l 1 a 1 a 1;", 3, 24);
        t.roadFault("colour a 1;player p 1;land l 1 p 1;", 3, 31);
        t.roadFault(FOUR + "land l 1 a 1 b 1 d 1 e 1 a 1;", 3, 69);
        t.roadFault(FOUR + "land l 1 a 1 b 1 d 1 e 1 z 1;", 3, 69);
        t.roadFault("goal 1;goal 1;", 3, 7);
        t.roadFault("cars 1;cars 99;", 3, 7);
        t.roadFault("change;change;", 3, 7);
    }

    private static void tooMany(Checks t) {
        t.roadFault(FOUR + "colour a 9;", 4, 44);
        t.roadFault("land a 1;land b 1;land d 1;land 1", 4, 27);
        t.roadFault("player a 0;player b 0;player d 0;player", 4, 33);
    }

    private static void lengths(Checks t) {
        RedWhite x = new RedWhite();
        Checks.tell(x, "goal 1;" + Checks.repeat(" ", 893));
        t.due("900 bytes", x.road(), 1);
        t.roadFault("goal 1;" + Checks.repeat(" ", 894), 1, 900);
        t.roadFault(Checks.repeat(" ", 940), 1, 900);
        t.roadFault(Checks.repeat(" ", 894) + "goal 1;", 1, 900);
        t.roadFault(Checks.repeat(" ", 899) + "goal 1;", 1, 900);
        t.roadFault(Checks.repeat(" ", 898) + "foolish;", 1, 898);
        t.roadFault(Checks.repeat(" ", 894) + "change 1;", 1, 900);
        // A token that begins ahead of the end is read whole: this name is too long, at its place.
        t.roadFault(Checks.repeat(" ", 890) + "colour abcdefgh 1;", 1, 897);
        t.roadFault(Checks.repeat(" ", 890) + "colour abcdefg 1;", 1, 900);
        t.roadFault("goal 1;" + Checks.repeat(" ", 888) + "goal 12345", 3, 895);
        t.roadFault(Checks.repeat(" ", 894) + "cars 13;", 2, 899);
        t.roadFault("goal 1;" + Checks.repeat(" ", 893) + "goal 1;", 1, 900);
        t.roadFault("Goal 1;" + Checks.repeat(" ", 894), 1, 0);
    }

    private static void stays(Checks t) {
        RedWhite x = t.on("colour a 2;land l 1 a 6;player p 3;goal 7;cars 8;change;");
        x.take(0, 0);
        x.come(0);
        t.sentenceFault(x, "", 1, 0);
        t.due("a sentence", t.sentence(x, "won"), 1);
        t.roadFault(x, "colour b 3;goal 10;", 2, 16);
        t.due("the score stays", x.player(0, 0), 5);
        t.due("the colour stays", x.colour(0, 0), 2);
        t.due("the goal stays", x.count(3), 7);
        t.due("the sentence stays", x.said(-1), 0);
        t.due("undo stays", x.undo(), 1);
        Checks.tell(x, "colour b 3;player q 4;player r 4;");
        t.due("a new road", x.road(), 3);
        t.due("its fault", x.fault(), 0);
        t.due("nothing came", x.now(0), 0);
        t.due("nobody has one", x.player(0, 2), -1);
        t.due("start", x.player(1, 0), 4);
        t.due("no sentence", x.said(-1), -1);
        t.due("goal without", x.count(3), 9);
        t.due("cars without", x.count(4), 12);
        t.due("no change", x.count(5), 0);
        t.due("nothing to be undone", x.undo(), -1);
    }

    private static void told(Checks t) {
        RedWhite x = t.on("colour a 1;colour b 3;ends b;land l 2 a 5 b 3;land m 9 b 12;player p 0;player q 0;");
        t.due("count a", x.colour(0, 0), 1);
        t.due("count b", x.colour(1, 0), 3);
        t.due("a ends", x.colour(0, 1), 0);
        t.due("b ends", x.colour(1, 1), 1);
        t.due("who has b", x.colour(1, 2), -1);
        t.due("take", x.take(1, 1), 0);
        t.due("who has b now", x.colour(1, 2), 1);
        t.due("b came", x.colour(1, 3), 0);
        t.due("come", x.come(0), 0);
        t.due("come", x.come(0), 0);
        t.due("come", x.come(1), 0);
        t.due("a came", x.colour(0, 3), 2);
        t.due("b came then", x.colour(1, 3), 1);
        t.due("no such what", x.colour(0, 4), -1);
        t.due("no such what", x.colour(0, -1), -1);
        t.due("no such colour", x.colour(2, 0), -1);
        t.due("no such colour", x.colour(-1, 0), -1);
        int[][] want = {{4, 5, 3}, {0, 0, 12}};
        for (int l = 0; l < 2; l++) {
            for (int c = -1; c < 2; c++) {
                t.due("land " + l + " " + c, x.land(l, c), want[l][c + 1]);
            }
            t.due("no such colour in a land", x.land(l, 2), -1);
            t.due("no such colour in a land", x.land(l, -2), -1);
        }
        t.due("no such land", x.land(2, 0), -1);
        t.due("no such land", x.land(-1, 0), -1);
        RedWhite y = t.on("colour a 1;");
        t.due("without lands", y.land(0, -1), -1);
    }
}
