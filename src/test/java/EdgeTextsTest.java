/** The edges that 'Terms' names for texts: tokens, numbers, names, how many, how long, which fault comes first. */
final class EdgeTextsTest {
    private static final String FOUR = "colour a 1;colour b 1;colour d 1;colour e 1;";
    private static final String WORDS = "colour ends land player goal cars change takes turns comes grey or and not "
        + "leads won has turned score start needs number";

    public static void main(String[] args) {
        Checks t = new Checks();
        blanks(t);
        words(t);
        numbers(t);
        runsOfLettersAndDigits(t);
        numbersLikeSigns(t);
        signs(t);
        ranges(t);
        twelveAtMost(t);
        onceEach(t);
        withoutGoalAndCars(t);
        reservedWords(t);
        namesToldTwice(t);
        namesOfAnotherSort(t);
        namesNotToldYet(t);
        howManyOfASort(t);
        greyOnes(t);
        logLines(t);
        logWords(t);
        sentenceNumbers(t);
        twentyOnes(t);
        eightWithin(t);
        firstAlongTheText(t);
        leastOfOneToken(t);
        placeOfTheEnd(t);
        mostBytes(t);
        tokensReadWhole(t);
        t.finish();
    }

    /** "with blanks (32, 10) between them or not": no other byte is a blank. */
    private static void blanks(Checks t) {
        for (int sign = 0; sign < 256; sign++) {
            RedWhite x = new RedWhite();
            boolean blank = sign == 32 || sign == 10;
            String text = "" + (char) sign;
            Checks.tell(x, text);
            t.due("a road of byte " + sign, x.road(), blank ? 0 : -1);
            t.due("its fault", x.fault(), blank ? 0 : 1);
            Checks.tell(x, "goal" + text + "1;");
            boolean joined = sign >= 'a' && sign <= 'z' || sign >= '0' && sign <= '9';
            t.due("goal, byte " + sign + ", 1", x.road(), blank ? 1 : joined ? -1 : -5);
        }
        RedWhite x = new RedWhite();
        Checks.tell(x, "\n \ngoal\n\n1\n;\n cars 2 ;change;");
        t.due("blanks anywhere", x.road(), 3);
    }

    /** "WORDS: small letters, 1 to 7". */
    private static void words(Checks t) {
        RedWhite x = new RedWhite();
        String letters = "zyxwvutsr";
        for (int n = 1; n <= 9; n++) {
            String text = "player " + letters.substring(0, n) + " 0;";
            if (n <= 7) {
                Checks.tell(x, text);
                t.due(text, x.road(), 1);
            } else {
                t.roadFault(text, 1, 7);
            }
        }
        t.roadFault("player A 0;", 1, 7);
        t.roadFault("player aB 0;", 1, 8);
        // Eight letters whose last seven are a name told, and whose first seven are.
        t.roadFault("player bcdefgh 0;player abcdefgh 0;", 1, 24);
        t.logFault(t.on("player bcdefgh 0;"), "abcdefgh takes a;", 1, 0);
        t.logFault(t.on("player abcdefg 0;"), "abcdefgh takes a;", 1, 0);
    }

    /** "NUMBERS: 1 to 2 digits". */
    private static void numbers(Checks t) {
        RedWhite x = new RedWhite();
        Checks.tell(x, "goal 08;cars 8;");
        t.due("one digit and two", x.road(), 2);
        t.due("08", x.count(3), 8);
        t.due("8", x.count(4), 8);
        t.roadFault("goal 008;", 1, 5);
        t.roadFault("goal 100;", 1, 5);
        t.roadFault("goal 4294967297;", 1, 5);
        t.due("99", t.sentence(x, "score<99"), 1);
        t.sentenceFault("", "score<099", 1, 6);
    }

    /** "A WORD, NUMBER goes on as long as small letters and digits do; what is not as told is no TOKEN". */
    private static void runsOfLettersAndDigits(Checks t) {
        t.roadFault("goal1;", 1, 0);
        t.roadFault("goal 1x;", 1, 5);
        t.roadFault("colour a1;", 1, 7);
        t.roadFault("colour 1a 1;", 1, 7);
        t.roadFault("goal 1cars 2;", 1, 5);
        t.sentenceFault("", "score<1or won", 1, 6);
        t.sentenceFault("", "won2", 1, 0);
        t.sentenceFault("", "notwon", 1, 0);
    }

    /** A NUMBER of three digits is no sign either, though its value is a sign's: 40 (, 41 ), 59 ;, 60 <. */
    private static void numbersLikeSigns(Checks t) {
        t.roadFault("goal 1 059", 1, 7);
        t.roadFault("goal 1 59", 1, 7);
        t.logFault("player p 0;", "comes grey 059", 1, 11);
        t.sentenceFault("player p 0;", "score 060 1", 1, 6);
        t.sentenceFault("player p 0;", "score 60 1", 1, 6);
        t.sentenceFault("player p 0;", "040 won)", 1, 0);
        t.sentenceFault("player p 0;", "(won 041", 1, 5);
    }

    /** Signs part words without blanks, and each may come only where it is told. */
    private static void signs(Checks t) {
        String road = "colour a 1;player p 0;";
        RedWhite x = t.on(road);
        t.due("signs part words", t.sentence(x, "not(has a)and(score<1)or(start=0)and(needs>1)"), 9);
        t.due("a log", t.log(x, "p takes a;comes grey;", 0), -1);
        for (String sign : new String[] {"<", "=", ">", "(", ")", "."}) {
            t.roadFault("goal 1" + sign, 1, 6);
            t.logFault(road, "p takes a" + sign, 1, 9);
            t.sentenceFault(road, "won" + sign, 1, 3);
        }
        t.sentenceFault(road, "score;1", 1, 5);
        t.sentenceFault(road, "score<=1", 1, 6);
    }

    /** COUNT 1 to 3, CHANCE 1 to 9, N 1 to 12, START 0 to 8, goal 1 to 9, cars 1 to 12: all numbers there are. */
    private static void ranges(Checks t) {
        range(t, "colour a ", "", 1, 3);
        range(t, "land l ", "", 1, 9);
        range(t, "colour a 1;land l 1 a ", "", 1, 12);
        range(t, "colour a 1;land l ", " a 1", 1, 9);
        range(t, "player p ", "", 0, 8);
        range(t, "goal ", "", 1, 9);
        range(t, "cars ", "", 1, 12);
    }

    private static void range(Checks t, String ahead, String behind, int least, int most) {
        for (int n = 0; n <= 99; n++) {
            RedWhite x = new RedWhite();
            String text = ahead + n + behind + ";";
            if (n >= least && n <= most) {
                Checks.tell(x, text);
                t.due(text, x.road() > 0, true);
                t.due("fault of " + text, x.fault(), 0);
            } else {
                t.roadFault(text, 2, ahead.length());
            }
        }
    }

    /** "all together 12 at most": the NUMBER by which a LAND would have more is the fault. */
    private static void twelveAtMost(Checks t) {
        for (int a = 1; a <= 12; a++) {
            for (int b = 1; b <= 12; b++) {
                RedWhite x = new RedWhite();
                String ahead = "colour a 1;colour b 1;land l 1 b " + b + " a ";
                if (a + b <= 12) {
                    Checks.tell(x, ahead + a + ";");
                    t.due(ahead + a, x.road(), 3);
                    t.due("grey in it", x.land(0, -1), 12 - a - b);
                } else {
                    t.roadFault(ahead + a + ";", 2, ahead.length());
                }
            }
        }
        RedWhite x = new RedWhite();
        Checks.tell(x, FOUR + "land l 1 e 9 d 1 b 1 a 1;land m 1 a 12;");
        t.due("twelve by four, and each land anew", x.road(), 6);
        t.roadFault(FOUR + "land l 1 e 9 d 1 b 1 a 2;", 2, 67);
    }

    /** "once for each", "each COLOUR once in it", "once": told again it is 3. */
    private static void onceEach(Checks t) {
        RedWhite x = new RedWhite();
        Checks.tell(x, FOUR + "ends e;ends a;ends d;ends b;");
        t.due("ends for each", x.road(), 8);
        for (int c = 0; c < 4; c++) {
            t.due("it ends", x.colour(c, 1), 1);
        }
        t.roadFault(FOUR + "ends e;ends a;ends e;", 3, 63);
        t.roadFault(FOUR + "land l 1 a 1 b 1 a 1;", 3, 61);
        Checks.tell(x, FOUR + "land l 1 a 1;land m 1 a 1;");
        t.due("once in each land", x.road(), 6);
        t.roadFault("goal 9;change;goal 9;", 3, 14);
        t.roadFault("cars 12;change;cars 12;", 3, 15);
        t.roadFault("change;goal 1;change;", 3, 14);
        t.roadFault("goal 1;goal", 3, 7);
        // Once in a road, not once in an object.
        for (int i = 0; i < 2; i++) {
            Checks.tell(x, "colour a 1;ends a;goal 9;cars 12;change;");
            t.due("each road anew", x.road(), 5);
        }
    }

    /** "9 without", "12 without"; no change without. */
    private static void withoutGoalAndCars(Checks t) {
        RedWhite x = t.on("goal 2;cars 3;change;");
        t.due("told goal", x.count(3), 2);
        t.due("told cars", x.count(4), 3);
        t.due("told change", x.count(5), 1);
        Checks.tell(x, "player p 0;");
        t.due("another road", x.road(), 1);
        t.due("goal without", x.count(3), 9);
        t.due("cars without", x.count(4), 12);
        t.due("change without", x.count(5), 0);
        for (int i = 0; i < 12; i++) {
            t.due("car " + i, x.come(-1), 0);
        }
        t.due("the 13th", x.come(-1), 1);
    }

    /** "NAME: a WORD, none of those told here, in a LOG or a SENTENCE". */
    private static void reservedWords(Checks t) {
        String road = "colour a 1;player p 0;land l 1 a 1;";
        for (String word : WORDS.split(" ")) {
            t.roadFault("colour " + word + " 1;", 1, 7);
            t.roadFault("land " + word + " 1;", 1, 5);
            t.roadFault("player " + word + " 0;", 1, 7);
            t.roadFault("ends " + word + ";", 1, 5);
            t.roadFault("land m 1 " + word + " 1;", 1, 9);
            t.logFault(road, "p takes " + word + ";", 1, 8);
            t.logFault(road, "p turns " + word + ";", 1, 8);
            t.sentenceFault(road, "has " + word, 1, 4);
            if (!word.equals("comes")) {
                t.logFault(road, word + " takes a;", 1, 0);
            }
            if (!word.equals("grey")) {
                t.logFault(road, "comes " + word + ";", 1, 6);
            }
            RedWhite y = new RedWhite();
            String like = word.length() < 7 ? word + "x" : word.substring(1);
            Checks.tell(y, "colour " + like + " 1;");
            t.due("a name like " + word, y.road(), 1);
        }
    }

    /** "told once": by no two of any sorts, at the second. */
    private static void namesToldTwice(Checks t) {
        String[] lines = {"colour same 1;", "land same 1;", "player same 1;"};
        int[] places = {7, 5, 7};
        RedWhite x = new RedWhite();
        for (String first : lines) {
            for (int i = 0; i < 3; i++) {
                t.roadFault(first + lines[i], 3, first.length() + places[i]);
                t.roadFault(first + "goal 1;" + lines[i], 3, first.length() + 7 + places[i]);
            }
        }
        Checks.tell(x, "colour same 1;");
        t.due("a name of another road", x.road(), 1);
        Checks.tell(x, "player same 1;");
        t.due("may be told anew", x.road(), 1);
        Checks.tell(x, "colour a 1;player aa 0;land aaa 1;colour b 1;");
        t.due("names that begin alike", x.road(), 4);
    }

    /** "of another sort": where a COLOUR or a PLAYER is due. */
    private static void namesOfAnotherSort(Checks t) {
        String three = "colour a 1;land l 1;player p 0;";
        for (String name : new String[] {"l", "p"}) {
            t.roadFault(three + "ends " + name + ";", 3, 36);
            t.roadFault(three + "land m 1 " + name + " 1;", 3, 40);
            t.logFault(three, "p takes " + name + ";", 3, 8);
            t.logFault(three, "p turns " + name + ";", 3, 8);
            t.logFault(three, "comes " + name + ";", 3, 6);
            t.sentenceFault(three, "has " + name, 3, 4);
        }
        t.logFault(three, "a takes a;", 3, 0);
        t.logFault(three, "l takes a;", 3, 0);
    }

    /** "not told": along the text, so a COLOUR that is told behind is not told yet. */
    private static void namesNotToldYet(Checks t) {
        RedWhite x = new RedWhite();
        t.roadFault("ends a;colour a 1;", 3, 5);
        t.roadFault("land l 1 a 1;colour a 1;", 3, 9);
        t.roadFault("land l 1 l 1;", 3, 9);
        t.logFault("", "p takes a;", 3, 0);
        t.logFault("", "comes a;", 3, 6);
        t.sentenceFault("", "has a", 3, 4);
        t.due("grey is always told", t.log(x, "comes grey;", 0), -1);
    }

    /** "4 COLOURS, 3 LANDS, 3 PLAYERS at most, numbered from 0 each"; one more is 4 at the LINE's first WORD. */
    private static void howManyOfASort(Checks t) {
        String full = FOUR + "land l 1 a 1;land m 2 b 2;land n 3 e 3;player p 1;player q 2;player r 3;";
        RedWhite x = t.on(full);
        t.due("colours", x.count(0), 4);
        t.due("lands", x.count(1), 3);
        t.due("players", x.count(2), 3);
        t.due("land 0", x.land(0, 0), 1);
        t.due("land 1", x.land(1, 1), 2);
        t.due("land 2", x.land(2, 3), 3);
        for (int p = 0; p < 3; p++) {
            t.due("start of " + p, x.player(p, 1), p + 1);
        }
        t.roadFault(full + "colour z 1;", 4, full.length());
        t.roadFault(full + "land z 1;", 4, full.length());
        t.roadFault(full + "player z 1;", 4, full.length());
        t.roadFault(full + "  colour a 0", 4, full.length() + 2);
        t.due("it stays", x.count(0), 4);
        RedWhite mixed = t.on("player p 1;colour a 1;land l 1;player q 2;colour b 2;land m 1 b 4;");
        t.due("numbered each for itself", mixed.colour(1, 0), 2);
        t.due("numbered each for itself", mixed.land(1, 1), 4);
        t.due("numbered each for itself", mixed.player(1, 1), 2);
    }

    /** "all others grey; without LANDS all are grey, everywhere". */
    private static void greyOnes(Checks t) {
        RedWhite x = t.on("colour a 1;colour b 1;land l 1 a 12;land m 1;land n 1 a 5 b 6;");
        t.due("none grey", x.land(0, -1), 0);
        t.due("all grey", x.land(1, -1), 12);
        t.due("one grey", x.land(2, -1), 1);
        RedWhite none = t.on("colour a 1;player p 0;");
        none.take(0, 0);
        t.fraction("a next", none.next(0, 0), none.next(0, 1), 0, 1);
        t.fraction("grey next", none.next(-1, 0), none.next(-1, 1), 1, 1);
        t.due("a does not come", none.come(0), 2);
        t.due("grey comes", none.come(-1), 0);
        t.fraction("luck", none.luck(0), none.luck(1), 12, 12);
    }

    /** "{ LINE ; }, 40 at most"; "a 41st LINE of a LOG (at the LINE's first WORD)". */
    private static void logLines(Checks t) {
        String road = "colour a 1;land l 1 a 6;player p 0;";
        RedWhite x = t.on(road);
        String forty = Checks.repeat("comes a;", 38) + "p takes a;p turns a;";
        t.due("forty lines", t.log(x, forty, 0), 12);
        t.due("no fault", x.fault(), 0);
        t.logFault(road, forty + " \n comes a;", 4, forty.length() + 3);
        t.logFault(road, forty + "p takes a;", 4, forty.length());
        t.logFault(road, forty + "comes", 4, forty.length());
        t.due("none", t.log(x, "", 1), -1);
        t.due("lines of none", x.logged(1), 0);
    }

    /** A LOG's words, each only where it is told. */
    private static void logWords(Checks t) {
        String road = "colour a 1;land l 1 a 6;player p 0;";
        t.logFault(road, "p comes a;", 1, 2);
        t.logFault(road, "p takes;", 1, 7);
        t.logFault(road, "p takes a comes a;", 1, 10);
        t.logFault(road, "comes a", 1, 7);
        t.logFault(road, "comes a;p", 1, 9);
        t.logFault(road, "comes 1;", 1, 6);
        t.logFault(road, "goal 1;", 1, 0);
        t.logFault(road, "comes a;;", 1, 8);
    }

    /** A NUMBER of a SENTENCE may be any. */
    private static void sentenceNumbers(Checks t) {
        RedWhite x = t.on("player p 0;player q 8;");
        for (int n = 0; n <= 99; n++) {
            for (String what : new String[] {"score", "start", "needs", "number"}) {
                t.due(what + n, t.sentence(x, what + "<" + n), 1);
            }
            t.due("score<" + n, t.sentence(x, "score<" + n), 1);
            t.due("said", x.said(-1), n == 0 ? 0 : n <= 8 ? 1 : 2);
            if (n % 16 == 15) {
                x = t.on("player p 0;player q 8;");
            }
        }
    }

    /** "20 ONES"; "a 21st ONE (at its first TOKEN)"; each not, bracket and other one is one. */
    private static void twentyOnes(Checks t) {
        String road = "colour a 1;player p 0;";
        RedWhite x = t.on(road);
        String nineteen = Checks.repeat("won or ", 19);
        t.due("20", t.sentence(x, nineteen + "has a"), 20);
        t.sentenceFault(road, nineteen + "not won", 4, 137);
        t.sentenceFault(road, nineteen + "(won)", 4, 134);
        t.sentenceFault(road, nineteen + "won and score<1", 4, 141);
        String eighteen = Checks.repeat("won or ", 18);
        t.due("18, a not and one", t.sentence(x, eighteen + "not won"), 20);
        t.due("18, a bracket and one", t.sentence(x, eighteen + "(won)"), 20);
        t.sentenceFault(road, eighteen + "(won or won)", 4, 134);
        t.sentenceFault(road, eighteen + "not(won)", 4, 130);
        t.sentenceFault(road, nineteen + "won or(", 4, 139);
    }

    /** "8 within one another"; "a ninth within (at its first TOKEN)". */
    private static void eightWithin(Checks t) {
        String road = "player p 0;";
        RedWhite x = t.on(road);
        for (int n = 0; n <= 7; n++) {
            String nots = Checks.repeat("not ", n);
            t.due("nots and one " + n, t.sentence(x, nots + "won"), n + 1);
            t.due("said", x.said(-1), n % 2);
            t.due("brackets and one " + n, t.sentence(x, Checks.repeat("(", n) + "won" + Checks.repeat(")", n)), n + 1);
        }
        t.sentenceFault(road, Checks.repeat("not ", 8) + "won", 4, 32);
        t.sentenceFault(road, Checks.repeat("(", 8) + "won" + Checks.repeat(")", 8), 4, 8);
        t.sentenceFault(road, Checks.repeat("(", 9), 4, 8);
        t.sentenceFault(road, Checks.repeat("not(", 4) + "won))))", 4, 16);
        t.due("not and brackets", t.sentence(x, "not(not(not(not won)))"), 8);
        t.due("side by side", t.sentence(x, "((((((won and won)and won)and won)and won)and won)and won)and won"), 14);
        t.sentenceFault(road, Checks.repeat("(", 7) + "won or not won" + Checks.repeat(")", 7), 4, 18);
    }

    /** "the first along the text". */
    private static void firstAlongTheText(Checks t) {
        String road = "colour a 1;player p 0;";
        t.roadFault("goal 10;goal 1;#", 2, 5);
        t.roadFault("goal 1;goal 10;#", 3, 7);
        t.roadFault("# goal 10;", 1, 0);
        t.roadFault(FOUR + "colour a 9;ends z;", 4, 44);
        t.roadFault(FOUR + "ends z;colour a 9;", 3, 49);
        t.roadFault("colour a 4", 2, 9);
        t.logFault(road, "z takes z", 3, 0);
        t.logFault(road, "p takes z", 3, 8);
        t.logFault(road, "p z z", 1, 2);
        t.sentenceFault(road, "has z and and", 3, 4);
        t.sentenceFault(road, "won and and has z", 1, 8);
    }

    /** "of one TOKEN the least". */
    private static void leastOfOneToken(Checks t) {
        String road = "colour a 1;player p 0;";
        String forty = Checks.repeat("comes a;", 40);
        t.logFault(road, forty + "#", 1, 320);
        t.logFault(road, forty + "12", 1, 320);
        t.logFault(road, forty + ";", 1, 320);
        t.logFault(road, forty + "a takes a;", 3, 320);
        t.logFault(road, forty + "z takes a;", 3, 320);
        t.logFault(road, forty + "p takes a;", 4, 320);
        String twenty = Checks.repeat("won or ", 20);
        t.sentenceFault(road, twenty + "#", 1, 140);
        t.sentenceFault(road, twenty + "or", 1, 140);
        t.sentenceFault(road, twenty + "a", 1, 140);
        t.sentenceFault(road, twenty + ")", 1, 140);
        t.sentenceFault(road, twenty + "has z", 4, 140);
        t.sentenceFault(road, Checks.repeat("(", 8) + ")", 1, 8);
        t.sentenceFault(road, Checks.repeat("(", 8) + "a", 1, 8);
        t.sentenceFault(road, Checks.repeat("(", 8), 1, 8);
        // A number where none can come is 1, however great; a word of the texts' own is 1, not 3.
        t.roadFault("goal 1 99;", 1, 7);
        t.roadFault("colour a 1;ends goal;", 1, 16);
    }

    /** "the end: how many bytes there are", blanks and all. */
    private static void placeOfTheEnd(Checks t) {
        String road = "colour a 1;player p 0;";
        t.roadFault("goal", 1, 4);
        t.roadFault("goal \n ", 1, 7);
        t.roadFault("goal 1 ", 1, 7);
        t.roadFault("colour a 1;land l 1 a 1", 1, 23);
        t.roadFault("colour a 1;land l 1 a", 1, 21);
        t.roadFault("change", 1, 6);
        t.logFault(road, "p takes  ", 1, 9);
        t.logFault(road, "comes", 1, 5);
        t.sentenceFault(road, "", 1, 0);
        t.sentenceFault(road, "\n\n", 1, 2);
        t.sentenceFault(road, "(won ", 1, 5);
        t.sentenceFault(road, "score < ", 1, 8);
        t.roadFault(Checks.repeat(" ", 896) + "goal", 1, 900);
        t.logFault(road, Checks.repeat(" ", 395) + "comes", 1, 400);
        t.sentenceFault(road, Checks.repeat(" ", 197) + "not", 1, 200);
    }

    /** "the most bytes told, if there are more and no FAULT is ahead". */
    private static void mostBytes(Checks t) {
        String road = "colour a 1;player p 0;";
        RedWhite x = t.on(road);
        t.due("400 bytes of a log", t.log(x, Checks.repeat(" ", 392) + "comes a;", 0), 0);
        t.due("200 bytes of a sentence", t.sentence(x, Checks.repeat(" ", 197) + "won"), 1);
        t.logFault(road, "comes a;" + Checks.repeat(" ", 393), 1, 400);
        t.logFault(road, Checks.repeat("\n", 940), 1, 400);
        t.logFault(road, "comes z;" + Checks.repeat(" ", 393), 3, 6);
        t.logFault(road, "comes a" + Checks.repeat(" ", 393) + "#", 1, 400);
        t.sentenceFault(road, "won" + Checks.repeat(" ", 198), 1, 200);
        t.sentenceFault(road, Checks.repeat(" ", 201), 1, 200);
        t.sentenceFault(road, "has z" + Checks.repeat(" ", 198), 3, 4);
        t.sentenceFault(road, "not" + Checks.repeat(" ", 700), 1, 200);
        t.roadFault("goal" + Checks.repeat(" ", 897), 1, 900);
        t.roadFault("goal 0" + Checks.repeat(" ", 897), 2, 5);
        Checks.tell(x, Checks.repeat(" ", 893) + "goal 3;");
        t.due("900 bytes of a road", x.road(), 1);
    }

    /** "TOKENS that begin ahead of it are read whole"; one that begins at it is not read. */
    private static void tokensReadWhole(Checks t) {
        String road = "colour a 1;player p 0;";
        t.roadFault(Checks.repeat(" ", 899) + "goal", 1, 900);
        t.roadFault(Checks.repeat(" ", 899) + "goalx", 1, 899);
        t.roadFault(Checks.repeat(" ", 894) + "goal 99;", 2, 899);
        t.roadFault(Checks.repeat(" ", 894) + "goal 999;", 1, 899);
        t.roadFault(Checks.repeat(" ", 895) + "goal 99;", 1, 900);
        t.roadFault("goal 1;" + Checks.repeat(" ", 892) + "goal 1;", 3, 899);
        t.roadFault("goal 1;" + Checks.repeat(" ", 893) + "goal 1;", 1, 900);
        t.roadFault(FOUR + Checks.repeat(" ", 855) + "colour z 1;", 4, 899);
        t.roadFault(FOUR + Checks.repeat(" ", 856) + "colour z 1;", 1, 900);
        t.logFault(road, Checks.repeat(" ", 393) + "comes zoe;", 3, 399);
        t.logFault(road, Checks.repeat(" ", 394) + "comes zoe;", 1, 400);
        t.logFault(road, Checks.repeat(" ", 399) + "comes;", 1, 400);
        t.sentenceFault(road, Checks.repeat(" ", 195) + "has zoe", 3, 199);
        t.sentenceFault(road, Checks.repeat(" ", 196) + "has zoe", 1, 200);
        t.sentenceFault(road, Checks.repeat(" ", 193) + "score<100", 1, 199);
        t.sentenceFault(road, Checks.repeat(" ", 193) + "score<10", 1, 200);
    }
}
