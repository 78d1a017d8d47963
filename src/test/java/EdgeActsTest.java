/**
 * The edges that promises 1 to 13 and 29 to 42 name, but for 33: one method for a sentence. Edges of
 * the texts themselves stand in EdgeTextsTest, those of chances in EdgeChancesTest.
 */
final class EdgeActsTest {
    private static final int NONE = RedWhite.NONE;
    private static final int[] FAR = {Integer.MIN_VALUE, -1000, -3, -2, 5, 12, 255, 256, 1000, Integer.MAX_VALUE};
    private static final String TWO = "colour a 1;colour b 2;colour d 1;land l 1 a 4 b 4;player p 0;player q 0;change;";

    public static void main(String[] args) {
        Checks t = new Checks();
        texts(t);
        tellings(t);
        acts(t);
        ends(t);
        undoings(t);
        scores(t);
        drives(t);
        logs(t);
        sayings(t);
        images(t);
        t.finish();
    }

    private static void texts(Checks t) {
        emptyAtFirst(t);
        feedTo940(t);
        feedHighestFirst(t);
        endOfTheTape(t);
        tapeEmptyBehindEachText(t);
        roadLinesAndStays(t);
        newRoad(t);
        faultOfTheLatest(t);
        countOfAnotherWhat(t);
    }

    private static void tellings(Checks t) {
        colourNoSuch(t);
        landNoSuch(t);
        playerNoSuch(t);
        nowOfAnotherWhat(t);
        nowWithoutPlayers(t);
        mostOfLikeOnes(t);
        carNoSuch(t);
        rowOfCars(t);
    }

    private static void acts(Checks t) {
        takeNoSuch(t);
        takeTheLeast(t);
        turnNoSuch(t);
        turnTheLeast(t);
        turnOnce(t);
        comeNoSuch(t);
        comeTheLeast(t);
        comeByWhatCame(t);
    }

    private static void ends(Checks t) {
        goalOrMore(t);
        goalAtFirst(t);
        goalAheadOfAnEnd(t);
        colourEnds(t);
        asManyAsThereAre(t);
        twoHaveMost(t);
    }

    private static void undoings(Checks t) {
        undoNothing(t);
        undoOnlyWhatWasDone(t);
        undoEightAtMost(t);
        undoEachSort(t);
        undoOverIsNotOver(t);
        undoLivedLogs(t);
    }

    private static void scores(Checks t) {
        scoresNotAsTold(t);
        scoresWithoutPlayers(t);
        scoresUnlikeColours(t);
        scoresFromTheBeginning(t);
        scoresWhoeverWon(t);
        scoresOfOneByte(t);
        tookAheadOfAny(t);
        tookTheFirstWay(t);
        tookStays(t);
    }

    private static void drives(Checks t) {
        drawnOverOrNoLands(t);
        drawnWraps(t);
        drawnTheLandByWhatCame(t);
        drawnNobody(t);
        winsNoSuch(t);
        winsOneToSixty(t);
        winsSeedsWrap(t);
    }

    private static void logs(Checks t) {
        logAnotherLives(t);
        logJudgedStays(t);
        logLivedAsFar(t);
        logWrongOrNone(t);
        logFaultPlace(t);
        loggedAheadOfAny(t);
        loggedAnotherWhat(t);
        loggedWhy(t);
        loggedOfTheLatest(t);
    }

    private static void sayings(Checks t) {
        sentenceOnes(t);
        sentenceStays(t);
        saidWithoutSentence(t);
        saidNoneSuch(t);
        leadsNobodyHasMore(t);
        needsZeroAtLeast(t);
        comparisonsAtTheEdge(t);
        wonOnlyWhenOver(t);
    }

    private static void images(Checks t) {
        imageNoSuch(t);
        restoreNoSuch(t);
        restoreNothingUndone(t);
        restoreLeavesTheRest(t);
        twoPlaces(t);
        imageKeptAnew(t);
    }

    /** 1: "An empty ROAD; an empty tape." */
    private static void emptyAtFirst(Checks t) {
        RedWhite x = new RedWhite();
        int[] want = {0, 0, 0, 9, 12, 0, 0};
        for (int what = 0; what < want.length; what++) {
            t.due("count " + what, x.count(what), want[what]);
        }
        t.due("nothing came", x.now(0), 0);
        t.due("not over", x.now(1), 0);
        t.due("no fault", x.fault(), 0);
        for (int i = 0; i < 12; i++) {
            t.due("grey comes", x.come(NONE), 0);
        }
        t.due("over by twelve", x.now(1), 1);
        t.due("nobody won", x.now(2), NONE);
    }

    /** 2: "how many it has; NONE, and none come, if it would have more than 940". */
    private static void feedTo940(Checks t) {
        for (int kept = 0; kept < 20; kept++) {
            RedWhite x = new RedWhite();
            x.feed(0, 0, 0, 0, 0);
            x.end(kept);
            int has = kept;
            while (has + 20 <= 940) {
                has += 20;
                t.due("fed to " + has, x.feed(' ', ' ', ' ', ' ', ' '), has);
            }
            t.due("beyond 940", x.feed(1, 1, 1, 1, 1), NONE);
            t.due("none came", x.count(6), has);
            t.due("its own length", x.end(has), true);
            t.due("no more", x.end(has + 1), false);
        }
    }

    /** 2: "of each number the highest first". */
    private static void feedHighestFirst(Checks t) {
        RedWhite x = new RedWhite();
        // "player abcdef 3;goal" by fives of four bytes, then " 7;".
        x.feed(0x706C6179, 0x65722061, 0x62636465, 0x6620333B, 0x676F616C);
        x.feed(0x20373B00, 0, 0, 0, 0);
        x.end(23);
        t.due("a road by numbers", x.road(), 2);
        t.due("start", x.player(0, 1), 3);
        t.due("goal", x.count(3), 7);
        // Bytes above 127 stand in numbers below 0 and are no tokens.
        x.feed(0x80FFFFFF, -1, -1, -1, -1);
        x.end(1);
        t.due("byte 128", x.road(), -1);
    }

    /** 3: "false, if it has not so many, or n is below 0". */
    private static void endOfTheTape(Checks t) {
        RedWhite x = new RedWhite();
        t.due("0 of an empty one", x.end(0), true);
        t.due("1 of an empty one", x.end(1), false);
        x.feed(0, 0, 0, 0, 0);
        for (int n : new int[] {-1, Integer.MIN_VALUE, 21, Integer.MAX_VALUE}) {
            t.due("end " + n, x.end(n), false);
            t.due("it stays", x.count(6), 20);
        }
        t.due("all", x.end(20), true);
        t.due("one less", x.end(19), true);
        t.due("what went does not come back", x.end(20), false);
        t.due("none", x.end(0), true);
        t.due("bytes", x.count(6), 0);
    }

    /** 4: "The tape (empty then, here and below)": also by a fault, or a NONE. */
    private static void tapeEmptyBehindEachText(Checks t) {
        RedWhite x = t.on("player p 0;");
        for (String text : new String[] {"", "goal 1;", "won", "comes grey;", "#", "\u0000", "\u0000\u0000"}) {
            Checks.tell(x, text);
            x.log(0);
            t.due("behind a log", x.count(6), 0);
            Checks.tell(x, text);
            x.sentence();
            t.due("behind a sentence", x.count(6), 0);
            Checks.tell(x, text);
            x.scores();
            t.due("behind scores", x.count(6), 0);
            Checks.tell(x, text);
            x.road();
            t.due("behind a road", x.count(6), 0);
        }
    }

    /** 4: "how many LINES; -1 less the place of a FAULT: it stays". */
    private static void roadLinesAndStays(Checks t) {
        RedWhite x = new RedWhite();
        t.due("no lines", x.road(), 0);
        Checks.tell(x, TWO);
        t.due("seven lines", x.road(), 7);
        x.take(0, 1);
        x.come(1);
        t.due("a sentence", t.sentence(x, "has b"), 1);
        t.roadFault(x, "player z 8;goal 1;#", 1, 18);
        t.due("players", x.count(2), 2);
        t.due("goal", x.count(3), 9);
        t.due("score", x.player(0, 0), 2);
        t.due("came", x.now(0), 1);
        t.due("the sentence", x.said(0), 0);
        t.due("names", t.log(x, "q takes a;", 0), NONE);
        t.due("acts", x.undo(), 1);
        t.roadFault(x, "#", 1, 0);
        t.due("place 0 is -1", x.count(1), 1);
    }

    /** "A new ROAD: nothing came, nobody has a COLOUR, no SENTENCE." */
    private static void newRoad(Checks t) {
        RedWhite x = t.on(TWO);
        x.take(0, 0);
        x.take(1, 1);
        x.turn(1, 2);
        x.come(0);
        x.come(NONE);
        t.sentence(x, "leads");
        Checks.tell(x, TWO);
        t.due("the same again", x.road(), 7);
        t.due("came", x.now(0), 0);
        t.due("grey", x.now(4), 0);
        t.due("a came", x.colour(0, 3), 0);
        t.due("car", x.car(0), -2);
        t.due("row", x.row(), 0);
        for (int p = 0; p < 2; p++) {
            t.due("score", x.player(p, 0), 0);
            t.due("colour", x.player(p, 2), NONE);
            t.due("turned", x.player(p, 3), 0);
        }
        t.due("no sentence", x.said(NONE), NONE);
        t.fraction("luck", x.luck(0), x.luck(1), 1, 1);
        t.due("an empty road is one too", x.road(), 0);
        t.due("no players", x.count(2), 0);
    }

    /** 5: "of the latest road(), log() or sentence() (a log() of -1000 leaves it); 0 without one and ahead of any". */
    private static void faultOfTheLatest(Checks t) {
        RedWhite x = new RedWhite();
        t.due("ahead of any", x.fault(), 0);
        t.roadFault(x, "goal 0;", 2, 5);
        x.scores();
        t.due("scores leave it", x.fault(), 2);
        x.log(5);
        t.due("-1000 leaves it", x.fault(), 2);
        x.log(0);
        t.due("a log without one", x.fault(), 0);
        t.sentenceFault(x, "has a", 3, 4);
        t.sentence(x, "won");
        t.due("a sentence without one", x.fault(), 0);
        t.logFault(x, Checks.repeat("comes grey;", 36) + "#", 1, 396);
        x.road();
        t.due("a road without one", x.fault(), 0);
        x.log(NONE);
        t.due("-1000 leaves 0", x.fault(), 0);
    }

    /** 42: "NONE for another what". */
    private static void countOfAnotherWhat(Checks t) {
        RedWhite x = t.on(TWO);
        for (int what : FAR) {
            t.due("count " + what, x.count(what), what == 5 ? 1 : NONE);
        }
        t.due("count -1", x.count(-1), NONE);
        t.due("count 7", x.count(7), NONE);
        x.feed(0, 0, 0, 0, 0);
        t.due("count 6", x.count(6), 20);
    }

    /** 6: "NONE: no such ones", and who has it, how often it came. */
    private static void colourNoSuch(Checks t) {
        RedWhite x = t.on(TWO + "ends d;");
        for (int far : FAR) {
            t.due("colour " + far, x.colour(far, 0), NONE);
            t.due("what " + far, x.colour(0, far), NONE);
        }
        t.due("grey is none", x.colour(NONE, 0), NONE);
        t.due("grey is none", x.colour(NONE, 3), NONE);
        t.due("colour 3", x.colour(3, 0), NONE);
        t.due("what -1", x.colour(0, -1), NONE);
        t.due("what 4", x.colour(0, 4), NONE);
        t.due("nobody has it", x.colour(2, 2), NONE);
        t.due("it ends it", x.colour(2, 1), 1);
        t.due("it does not", x.colour(1, 1), 0);
        x.take(1, 2);
        t.due("q has it", x.colour(2, 2), 1);
        x.turn(1, 0);
        t.due("he has it no more", x.colour(2, 2), NONE);
    }

    /** 7: "(NONE: grey); NONE: no such ones". */
    private static void landNoSuch(Checks t) {
        RedWhite x = t.on(TWO);
        for (int far : FAR) {
            t.due("land " + far, x.land(far, 0), NONE);
            t.due("colour " + far, x.land(0, far), NONE);
        }
        t.due("land -1", x.land(-1, 0), NONE);
        t.due("land 1", x.land(1, 0), NONE);
        t.due("colour 3", x.land(0, 3), NONE);
        t.due("not told in it", x.land(0, 2), 0);
        t.due("grey", x.land(0, NONE), 4);
        t.due("without lands", t.on("colour a 1;").land(0, NONE), NONE);
    }

    /** 8: "NoSuchElementException: no such ones". */
    private static void playerNoSuch(Checks t) {
        RedWhite x = t.on(TWO);
        for (int far : FAR) {
            t.refused("player " + far, () -> x.player(far, 0));
            t.refused("what " + far, () -> x.player(0, far));
        }
        t.refused("player -1", () -> x.player(-1, 0));
        t.refused("player 2", () -> x.player(2, 0));
        t.refused("what -1", () -> x.player(0, -1));
        t.refused("what 4", () -> x.player(0, 4));
        t.refused("neither", () -> x.player(2, 4));
        t.due("nothing changed", x.undo(), NONE);
    }

    /** 9: "NONE for another what". */
    private static void nowOfAnotherWhat(Checks t) {
        RedWhite x = t.on(TWO);
        for (int what : FAR) {
            t.due("now " + what, x.now(what), NONE);
        }
        t.due("now -1", x.now(-1), NONE);
        t.due("not yet won", x.now(2), NONE);
        x.come(NONE);
        x.come(0);
        t.due("cars", x.now(0), 2);
        t.due("grey ones", x.now(4), 1);
    }

    /** 9: "NONE without PLAYERS". */
    private static void nowWithoutPlayers(Checks t) {
        RedWhite x = t.on("colour a 1;land l 1 a 6;cars 1;");
        t.due("who has most", x.now(3), NONE);
        x.come(0);
        t.due("over", x.now(1), 1);
        t.due("who won", x.now(2), NONE);
        t.due("who has most", x.now(3), NONE);
    }

    /** 9: "who has most (of like ones the first)". */
    private static void mostOfLikeOnes(Checks t) {
        t.due("0 0 0", t.on("player p 0;player q 0;player r 0;").now(3), 0);
        t.due("1 2 2", t.on("player p 1;player q 2;player r 2;").now(3), 1);
        t.due("2 1 2", t.on("player p 2;player q 1;player r 2;").now(3), 0);
        t.due("1 1 2", t.on("player p 1;player q 1;player r 2;").now(3), 2);
        t.due("most is not the first at the goal", t.on("player p 4;player q 6;goal 4;").now(3), 1);
    }

    /** 31: "NONE: grey; -2: there is none such". */
    private static void carNoSuch(Checks t) {
        RedWhite x = t.on(TWO);
        t.due("ahead of any", x.car(0), -2);
        for (int i = 0; i < 12; i++) {
            x.come(i % 3 == 2 ? NONE : i % 3 % 2);
        }
        t.due("the first", x.car(0), 0);
        t.due("a grey one", x.car(11), NONE);
        t.due("the 13th", x.car(12), -2);
        t.due("car -1", x.car(-1), -2);
        t.due("car least", x.car(Integer.MIN_VALUE), -2);
        t.due("car most", x.car(Integer.MAX_VALUE), -2);
        x.undo();
        t.due("undone", x.car(11), -2);
    }

    /** 32: "of one COLOUR (not grey) that came one behind another; 0: none". */
    private static void rowOfCars(Checks t) {
        RedWhite x = t.on(TWO);
        t.due("none", x.row(), 0);
        x.come(NONE);
        x.come(NONE);
        t.due("grey only", x.row(), 0);
        x.come(0);
        t.due("one", x.row(), 1);
        x.come(1);
        t.due("another colour", x.row(), 1);
        x.come(1);
        t.due("two", x.row(), 2);
        x.come(NONE);
        x.come(1);
        t.due("grey between", x.row(), 2);
        RedWhite all = t.on("colour a 1;land l 1 a 12;");
        for (int i = 1; i <= 12; i++) {
            all.come(0);
            t.due("row of " + i, all.row(), i);
        }
    }

    /** 10: "NONE: no such ones", ahead of any reason. */
    private static void takeNoSuch(Checks t) {
        RedWhite x = t.on(TWO + "goal 1;");
        x.take(0, 0);
        x.come(0);
        for (int far : FAR) {
            t.due("player " + far, x.take(far, 1), NONE);
            t.due("colour " + far, x.take(1, far), NONE);
        }
        t.due("player -1", x.take(-1, 1), NONE);
        t.due("player 2", x.take(2, 1), NONE);
        t.due("grey", x.take(1, NONE), NONE);
        t.due("colour 3", x.take(1, 3), NONE);
    }

    /** "why not, the least: 1 it is over; 2 he has one; 3 the COLOUR is taken". */
    private static void takeTheLeast(Checks t) {
        RedWhite x = t.on(TWO + "cars 1;");
        t.due("0", x.take(0, 0), 0);
        t.due("2, not 3", x.take(0, 0), 2);
        t.due("2 alone", x.take(0, 1), 2);
        t.due("3", x.take(1, 0), 3);
        t.due("q has none", x.player(1, 2), NONE);
        x.come(NONE);
        t.due("1, not 2 or 3", x.take(0, 0), 1);
        t.due("1, not 3", x.take(1, 0), 1);
        t.due("1 alone", x.take(1, 1), 1);
        t.due("q has none", x.player(1, 2), NONE);
    }

    /** 11: "NONE: no such ones", ahead of any reason. */
    private static void turnNoSuch(Checks t) {
        RedWhite x = t.on("colour a 1;colour b 1;player p 0;player q 0;");
        for (int far : FAR) {
            t.due("player " + far, x.turn(far, 0), NONE);
            t.due("colour " + far, x.turn(0, far), NONE);
        }
        t.due("player -1", x.turn(-1, 0), NONE);
        t.due("player 2", x.turn(2, 0), NONE);
        t.due("grey", x.turn(0, NONE), NONE);
        t.due("colour 2", x.turn(0, 2), NONE);
    }

    /** "1 it is over; 2 there is no changing; 3 he has none yet, or turned already; 4 the COLOUR is taken (his own, too)". */
    private static void turnTheLeast(Checks t) {
        RedWhite fixed = t.on("colour a 1;colour b 1;land l 1 a 6;player p 0;player q 0;cars 1;");
        t.due("2, not 3", fixed.turn(0, 0), 2);
        fixed.take(0, 0);
        t.due("2, not 4", fixed.turn(0, 0), 2);
        t.due("2, not 3 or 4", fixed.turn(1, 0), 2);
        t.due("2 alone", fixed.turn(0, 1), 2);
        fixed.come(0);
        t.due("1, not 2", fixed.turn(0, 1), 1);
        RedWhite x = t.on(TWO + "cars 1;");
        t.due("3: none yet", x.turn(0, 0), 3);
        x.take(0, 0);
        t.due("3, not 4", x.turn(1, 0), 3);
        x.take(1, 1);
        t.due("4: his own", x.turn(0, 0), 4);
        t.due("4: another's", x.turn(0, 1), 4);
        t.due("0", x.turn(0, 2), 0);
        t.due("3: turned already", x.turn(0, 0), 3);
        t.due("3, not 4: turned already", x.turn(0, 2), 3);
        x.come(NONE);
        t.due("1, not 3", x.turn(0, 0), 1);
        t.due("1, not 4", x.turn(1, 1), 1);
        t.due("1 alone", x.turn(1, 0), 1);
    }

    /** "each may TURN to another COLOUR once": one's turning is not another's; none may take again. */
    private static void turnOnce(Checks t) {
        RedWhite x = t.on(TWO);
        x.take(0, 0);
        x.take(1, 1);
        t.due("p turns", x.turn(0, 2), 0);
        t.due("q turns to what p left", x.turn(1, 0), 0);
        t.due("p not again", x.turn(0, 1), 3);
        t.due("p may not take", x.take(0, 1), 2);
        t.due("nobody has b", x.colour(1, 2), NONE);
        x.undo();
        t.due("q may again when it is undone", x.turn(1, 0), 0);
    }

    /** 12: "(NONE: grey) .. NONE: no such one", ahead of any reason. */
    private static void comeNoSuch(Checks t) {
        RedWhite x = t.on(TWO + "cars 1;");
        for (int i = 0; i < 2; i++) {
            for (int far : FAR) {
                t.due("come " + far, x.come(far), NONE);
            }
            t.due("come 3", x.come(3), NONE);
            t.due("come -2", x.come(-2), NONE);
            x.come(NONE);
        }
        t.due("one came", x.now(0), 1);
        t.due("it was grey", x.now(4), 1);
    }

    /** "A car COMES: why not: 1 it is over; 2 it can be in no LAND". */
    private static void comeTheLeast(Checks t) {
        RedWhite x = t.on(TWO + "cars 1;");
        t.due("2: in no land", x.come(2), 2);
        t.due("none came", x.now(0), 0);
        t.due("0", x.come(0), 0);
        t.due("1, not 2", x.come(2), 1);
        t.due("1 alone", x.come(0), 1);
        t.due("1: grey", x.come(NONE), 1);
        RedWhite full = t.on("colour a 1;land l 1 a 12;");
        t.due("2: no grey ones", full.come(NONE), 2);
        t.due("0", full.come(0), 0);
    }

    /** "it can be in no LAND": in none of those that are left by what came. */
    private static void comeByWhatCame(Checks t) {
        RedWhite x = t.on("colour a 1;colour b 1;land l 1 a 12;land m 1 b 12;");
        t.due("a or b", x.come(1), 0);
        t.due("not a now", x.come(0), 2);
        t.due("nor grey", x.come(NONE), 2);
        t.due("b again", x.come(1), 0);
        x.undo();
        x.undo();
        t.due("a when it is undone", x.come(0), 0);
        t.due("then not b", x.come(1), 2);
    }

    /** "It is OVER, if one has the goal or more (he won ..)". */
    private static void goalOrMore(Checks t) {
        RedWhite exactly = t.on("colour a 2;land l 1 a 6;player p 0;player q 3;goal 4;");
        exactly.take(0, 0);
        exactly.come(0);
        t.due("one short of it by 2", exactly.now(1), 0);
        exactly.come(0);
        t.due("just the goal", exactly.now(1), 1);
        t.due("he won", exactly.now(2), 0);
        RedWhite more = t.on("colour a 3;land l 1 a 6;player p 2;player q 3;goal 4;");
        more.take(0, 0);
        more.come(0);
        t.due("more than it", more.now(1), 1);
        t.due("score", more.player(0, 0), 5);
        t.due("he won", more.now(2), 0);
    }

    /** "at first, too: the first of those who have it". */
    private static void goalAtFirst(Checks t) {
        RedWhite x = t.on("player p 3;player q 4;player r 8;goal 4;");
        t.due("over", x.now(1), 1);
        t.due("the first of those, not who has most", x.now(2), 1);
        t.due("none comes", x.come(NONE), 1);
        t.due("one less", t.on("player p 3;goal 4;").now(1), 0);
        t.due("just it", t.on("player p 4;goal 4;").now(1), 1);
        t.due("8 of 9", t.on("player p 8;").now(1), 0);
        t.due("0 of 1", t.on("player p 0;goal 1;").now(1), 0);
        t.due("1 of 1", t.on("player p 1;goal 1;").now(2), 0);
        t.due("both", t.on("player p 5;player q 5;goal 5;").now(2), 0);
    }

    /** One who has the goal by the car that ends it, or by the last, won, though another had more for long. */
    private static void goalAheadOfAnEnd(Checks t) {
        RedWhite x = t.on("colour a 3;ends a;land l 1 a 6;player p 1;player q 3;goal 4;cars 1;");
        x.take(0, 0);
        x.come(0);
        t.due("by the goal", x.now(2), 0);
    }

    /** "if a COLOUR came that ends it": also one that nobody has; then who has most won. */
    private static void colourEnds(Checks t) {
        RedWhite x = t.on("colour a 1;colour b 1;ends b;land l 1 a 6 b 3;player p 0;player q 1;");
        x.take(0, 0);
        x.come(0);
        x.come(0);
        t.due("not over by a", x.now(1), 0);
        x.come(NONE);
        t.due("nor by grey", x.now(1), 0);
        x.come(1);
        t.due("over by b", x.now(1), 1);
        t.due("who has most", x.now(2), 0);
        t.due("no more come", x.come(0), 1);
        RedWhite own = t.on("colour b 1;ends b;land l 1 b 3;player p 2;player q 2;");
        own.take(1, 0);
        own.come(0);
        t.due("the ending one counts", own.now(2), 1);
    }

    /** "or as many came as there are". */
    private static void asManyAsThereAre(Checks t) {
        for (int cars = 1; cars <= 12; cars++) {
            RedWhite x = t.on("player p 1;player q 0;cars " + cars + ";");
            for (int i = 0; i < cars; i++) {
                t.due("not over by " + i + " of " + cars, x.now(1), 0);
                t.due("nobody yet", x.now(2), NONE);
                t.due("comes", x.come(NONE), 0);
            }
            t.due("over by " + cars, x.now(1), 1);
            t.due("who has most", x.now(2), 0);
            t.due("no more", x.come(NONE), 1);
        }
    }

    /** "then who has most won; nobody, if two have most". */
    private static void twoHaveMost(Checks t) {
        String[] starts = {"1 0 0", "0 1 0", "0 0 1", "1 1 0", "1 0 1", "0 1 1", "1 1 1", "0 1 2", "2 2 1", "2 1 2", "1 2 2"};
        int[] won = {0, 1, 2, NONE, NONE, NONE, NONE, 2, NONE, NONE, NONE};
        for (int i = 0; i < starts.length; i++) {
            String[] s = starts[i].split(" ");
            RedWhite x = t.on("player p " + s[0] + ";player q " + s[1] + ";player r " + s[2] + ";cars 1;");
            x.come(NONE);
            t.due("who won of " + starts[i], x.now(2), won[i]);
        }
    }

    /** 13: "NONE: none is". */
    private static void undoNothing(Checks t) {
        RedWhite x = new RedWhite();
        t.due("a new object", x.undo(), NONE);
        Checks.tell(x, TWO);
        x.road();
        t.due("a road is no act", x.undo(), NONE);
        t.due("it stays", x.count(2), 2);
        t.sentence(x, "won");
        x.image(0);
        x.wins(0, 5, 1);
        t.log(x, "comes a;", 0);
        t.due("nor is any of these", x.undo(), NONE);
    }

    /** 13: "that was done": what was refused is none. */
    private static void undoOnlyWhatWasDone(Checks t) {
        RedWhite x = t.on(TWO + "cars 1;");
        x.take(0, 0);
        x.take(0, 0);
        x.take(1, 0);
        x.take(5, 0);
        x.turn(0, 0);
        x.turn(1, 1);
        x.come(2);
        x.come(3);
        t.due("one only", x.undo(), 0);
        t.due("none more", x.undo(), NONE);
        x.come(NONE);
        x.come(NONE);
        x.drawn(1);
        t.due("one only", x.undo(), 0);
    }

    /** 13: "how many more can be (8 at most are kept)". */
    private static void undoEightAtMost(Checks t) {
        for (int acts = 1; acts <= 12; acts++) {
            RedWhite x = t.on("");
            for (int i = 0; i < acts; i++) {
                x.come(NONE);
            }
            int kept = Math.min(acts, 8);
            for (int more = kept - 1; more >= 0; more--) {
                t.due("of " + acts + " acts more", x.undo(), more);
                t.due("of " + acts + " cars", x.now(0), acts - kept + more);
            }
            t.due("none", x.undo(), NONE);
            t.due("cars that stay", x.now(0), acts - kept);
            t.due("a new act", x.come(NONE), 0);
            t.due("undone", x.undo(), 0);
        }
    }

    /** 13: each sort of act goes back as one. */
    private static void undoEachSort(Checks t) {
        RedWhite x = t.on(TWO);
        x.take(0, 0);
        x.come(0);
        x.turn(0, 1);
        t.log(x, "comes b;q takes a;comes a;", 1);
        x.drawn(3);
        t.due("five acts", x.undo(), 4);
        t.due("drawn", x.now(0), 3);
        t.due("log", x.undo(), 3);
        t.due("cars", x.now(0), 1);
        t.due("q", x.player(1, 2), NONE);
        t.due("turn", x.undo(), 2);
        t.due("his colour", x.player(0, 2), 0);
        t.due("did not turn", x.player(0, 3), 0);
        t.due("come", x.undo(), 1);
        t.due("score", x.player(0, 0), 0);
        t.due("take", x.undo(), 0);
        t.due("his colour", x.player(0, 2), NONE);
    }

    /** What ended it may be undone. */
    private static void undoOverIsNotOver(Checks t) {
        RedWhite x = t.on("colour a 1;ends a;land l 1 a 6;player p 0;goal 1;");
        x.take(0, 0);
        x.come(0);
        t.due("over", x.now(1), 1);
        t.due("undone", x.undo(), 1);
        t.due("not over", x.now(1), 0);
        t.due("comes again", x.come(0), 0);
    }

    /** 13: "a LOG that was lived": also one whose first LINE was WRONG; not one with a FAULT or judged only. */
    private static void undoLivedLogs(Checks t) {
        RedWhite x = t.on(TWO);
        x.come(0);
        t.log(x, "p turns a;", 1);
        t.due("lived as far as it went", x.undo(), 1);
        t.due("the car stays", x.now(0), 1);
        t.log(x, "comes a;#", 1);
        t.log(x, "comes a;", 0);
        t.log(x, "comes a;", 2);
        x.end(0);
        t.due("the car", x.undo(), 0);
        t.due("none", x.now(0), 0);
    }

    /** 29: "(a byte for each PLAYER) .. NONE: not as told". */
    private static void scoresNotAsTold(Checks t) {
        RedWhite x = t.on(TWO);
        for (int n = 0; n <= 5; n++) {
            Checks.tell(x, new byte[n]);
            t.due("scores by " + n + " bytes", x.scores(), n == 2 ? 6 : NONE);
            t.due("tape", x.count(6), 0);
        }
        Checks.tell(x, new byte[256]);
        t.due("scores by 256 bytes", x.scores(), NONE);
        Checks.tell(x, new byte[258]);
        t.due("scores by 258 bytes", x.scores(), NONE);
    }

    /** 29: "NONE: .. no PLAYERS". */
    private static void scoresWithoutPlayers(Checks t) {
        RedWhite x = t.on("colour a 1;land l 1 a 1;");
        t.due("an empty tape", x.scores(), NONE);
        Checks.tell(x, new byte[1]);
        t.due("one byte", x.scores(), NONE);
        t.due("tape", x.count(6), 0);
    }

    /** "all of them, unlike COLOURS": none if there are too few; 0 is a number of ways. */
    private static void scoresUnlikeColours(Checks t) {
        String players = "player p 0;player q 0;player r 0;";
        int[] ways = {0, 0, 0, 6, 24};
        for (int colours = 0; colours <= 4; colours++) {
            RedWhite x = t.on("colour a 1;colour b 1;colour d 1;colour e 1;".substring(0, 11 * colours) + players);
            Checks.tell(x, new byte[3]);
            t.due("ways by " + colours + " colours", x.scores(), ways[colours]);
        }
    }

    /** "from the beginning": by STARTS, whatever they have, took late or turned to. */
    private static void scoresFromTheBeginning(Checks t) {
        RedWhite x = t.on("colour a 1;colour b 2;land l 1 a 4 b 4;player p 3;change;");
        x.come(0);
        x.take(0, 0);
        x.come(0);
        x.turn(0, 1);
        x.come(1);
        t.due("his score", x.player(0, 0), 6);
        Checks.tell(x, new byte[] {6});
        t.due("by no colour from the beginning", x.scores(), 0);
        Checks.tell(x, new byte[] {5});
        t.due("by either", x.scores(), 2);
        Checks.tell(x, new byte[] {3});
        t.due("his start is not enough", x.scores(), 0);
    }

    /** "each to the end of what came, whoever won". */
    private static void scoresWhoeverWon(Checks t) {
        RedWhite x = t.on("colour a 3;land l 1 a 6;player p 8;");
        for (int i = 0; i < 12; i++) {
            x.come(0);
        }
        Checks.tell(x, new byte[] {44});
        t.due("8 and 36", x.scores(), 1);
        Checks.tell(x, new byte[] {9});
        t.due("not to the goal only", x.scores(), 0);
    }

    /** A byte is 0 to 255. */
    private static void scoresOfOneByte(Checks t) {
        RedWhite x = t.on("colour a 1;player p 0;");
        for (int b = 1; b < 256; b += 6) {
            Checks.tell(x, new byte[] {(byte) b});
            t.due("byte " + b, x.scores(), 0);
        }
        Checks.tell(x, new byte[] {0});
        t.due("byte 0", x.scores(), 1);
    }

    /** 30: "NONE: no such one, or ahead of any". */
    private static void tookAheadOfAny(Checks t) {
        RedWhite x = t.on(TWO);
        t.due("ahead of any", x.took(0), NONE);
        Checks.tell(x, new byte[] {9, 9});
        t.due("no way", x.scores(), 0);
        t.due("still ahead of any that was 1 or more", x.took(0), NONE);
        Checks.tell(x, new byte[] {0, 0});
        t.due("ways", x.scores(), 6);
        for (int far : FAR) {
            t.due("took " + far, x.took(far), NONE);
        }
        t.due("took -1", x.took(-1), NONE);
        t.due("took 2", x.took(2), NONE);
    }

    /** 30: "the first way (PLAYER by PLAYER the least COLOUR)". */
    private static void tookTheFirstWay(Checks t) {
        RedWhite x = t.on("colour a 1;colour b 1;colour d 1;colour e 1;land l 1 a 3 b 3 d 3 e 3;player p 0;player q 0;player r 0;");
        Checks.tell(x, new byte[3]);
        t.due("all", x.scores(), 24);
        for (int p = 0; p < 3; p++) {
            t.due("took " + p, x.took(p), p);
        }
        x.come(0);
        x.come(3);
        Checks.tell(x, new byte[] {0, 1, 1});
        t.due("p b or d, q and r a and e", x.scores(), 4);
        t.due("p", x.took(0), 1);
        t.due("q", x.took(1), 0);
        t.due("r", x.took(2), 3);
        Checks.tell(x, new byte[] {1, 0, 1});
        t.due("q b or d", x.scores(), 4);
        t.due("p", x.took(0), 0);
        t.due("q", x.took(1), 1);
        t.due("r", x.took(2), 3);
    }

    /** 30: "of the latest scores() that was 1 or more". */
    private static void tookStays(Checks t) {
        RedWhite x = t.on("colour a 1;colour b 1;land l 1 a 4 b 4;player p 0;");
        x.come(1);
        Checks.tell(x, new byte[] {1});
        t.due("by b", x.scores(), 1);
        Checks.tell(x, new byte[] {2});
        t.due("by none", x.scores(), 0);
        t.due("not as told", x.scores(), NONE);
        t.due("it stays", x.took(0), 1);
        x.undo();
        t.due("it stays when a car is undone", x.took(0), 1);
        Checks.tell(x, new byte[] {0});
        t.due("by both", x.scores(), 2);
        t.due("the latest", x.took(0), 0);
    }

    /** 34: "-2: it is over already, no LANDS". */
    private static void drawnOverOrNoLands(Checks t) {
        RedWhite none = t.on("colour a 1;player p 0;");
        t.due("no lands", none.drawn(7), -2);
        t.due("nothing came", none.now(0), 0);
        t.due("no act", none.undo(), NONE);
        RedWhite over = t.on("land l 1;player p 0;cars 1;");
        over.come(NONE);
        t.due("over already", over.drawn(7), -2);
        t.due("one act", over.undo(), 0);
        t.due("not over", over.drawn(7), 0);
        t.due("over by drawing", over.drawn(7), -2);
        RedWhite first = t.on("land l 1;player p 1;goal 1;");
        t.due("over at first", first.drawn(0), -2);
    }

    /** "x becomes x * 1103515245 + 12345 (an int, wrapping), the draw is (x >>> 8) % n". */
    private static void drawnWraps(Checks t) {
        int[] seeds = {0, 1, -1, 12345, Integer.MAX_VALUE, Integer.MIN_VALUE, 99999999, -99999999};
        for (int seed : seeds) {
            RedWhite x = t.on("colour a 1;colour b 1;land l 2 a 5 b 4;land m 5 b 1;");
            t.due("drawn", x.drawn(seed), NONE);
            long wide = next(seed & 0xFFFFFFFFL);
            int[] row = (wide >> 8) % 7 < 2 ? new int[] {5, 9} : new int[] {0, 1};
            for (int i = 0; i < 12; i++) {
                wide = next(wide);
                long draw = (wide >> 8) % 12;
                t.due("car " + i + " by " + seed, x.car(i), draw < row[0] ? 0 : draw < row[1] ? 1 : NONE);
            }
        }
    }

    /** The same by longs: the lowest 32 bits, as they are above 0. */
    private static long next(long x) {
        return (x * 1103515245L + 12345L) & 0xFFFFFFFFL;
    }

    /** "a draw of all CHANCES of those LANDS in which what came can be". */
    private static void drawnTheLandByWhatCame(Checks t) {
        for (int seed = 0; seed < 40; seed++) {
            RedWhite x = t.on("colour a 1;colour b 1;land l 9 a 12;land m 1 b 6;land n 1 b 6 a 6;cars 2;");
            x.come(1);
            x.drawn(seed);
            // In m or n only: by a draw of 2, not of 11; a car that is not b is grey in m, a in n.
            long wide = next(seed);
            boolean inM = (wide >> 8) % 2 == 0;
            long draw = (next(wide) >> 8) % 12;
            int want = inM ? draw < 6 ? 1 : NONE : draw < 6 ? 0 : 1;
            t.due("car by " + seed, x.car(1), want);
        }
    }

    /** 34: "who won (NONE: nobody)". */
    private static void drawnNobody(Checks t) {
        RedWhite x = t.on("land l 1;player p 3;player q 3;");
        t.due("nobody", x.drawn(5), NONE);
        t.due("all came", x.now(0), 12);
        x.undo();
        RedWhite y = t.on("land l 1;");
        t.due("no players", y.drawn(5), NONE);
        RedWhite z = t.on("colour a 1;land l 1 a 12;player p 0;player q 8;goal 9;");
        z.take(1, 0);
        t.due("q by the first car", z.drawn(5), 1);
        t.due("no further", z.now(0), 1);
    }

    /** 35: "NONE: no such ones, it is over already, no LANDS". */
    private static void winsNoSuch(Checks t) {
        RedWhite x = t.on("land l 1;player p 1;player q 0;cars 1;");
        for (int far : FAR) {
            t.due("player " + far, x.wins(far, 1, 0), NONE);
        }
        t.due("player -1", x.wins(-1, 1, 0), NONE);
        t.due("player 2", x.wins(2, 1, 0), NONE);
        for (int n : new int[] {Integer.MIN_VALUE, -1, 0, 61, Integer.MAX_VALUE}) {
            t.due("n " + n, x.wins(0, n, 0), NONE);
        }
        x.come(NONE);
        t.due("over already", x.wins(0, 1, 0), NONE);
        t.due("no lands", t.on("player p 1;").wins(0, 1, 0), NONE);
    }

    /** 35: "n (1 to 60)"; it changes nothing. */
    private static void winsOneToSixty(Checks t) {
        RedWhite x = t.on("land l 1;player p 1;player q 0;");
        x.come(NONE);
        for (int n = 1; n <= 60; n++) {
            t.due("p always", x.wins(0, n, n), n);
            t.due("q never", x.wins(1, n, n), 0);
        }
        t.due("one came", x.now(0), 1);
        t.due("one act", x.undo(), 0);
        t.due("when nobody wins", t.on("land l 1;player p 1;player q 1;").wins(0, 60, 3), 0);
    }

    /** 35: "seeds x, x and 1, ..", beyond the greatest int too. */
    private static void winsSeedsWrap(Checks t) {
        RedWhite x = t.on("colour a 1;colour b 1;land l 1 a 6 b 6;player p 0;player q 0;goal 1;");
        x.take(0, 0);
        x.take(1, 1);
        int first = Integer.MAX_VALUE - 9;
        int won = 0;
        for (int i = 0; i < 20; i++) {
            won += x.drawn(first + i) == 0 ? 1 : 0;
            x.undo();
        }
        t.due("some of them", won > 0 && won < 20, true);
        t.due("wins across the greatest", x.wins(0, 20, first), won);
        t.due("the others", x.wins(1, 20, first), 20 - won);
    }

    /** 36: "-1000: another lives (the tape stays)". */
    private static void logAnotherLives(Checks t) {
        RedWhite x = t.on(TWO);
        Checks.tell(x, "comes a;");
        for (int lives : FAR) {
            t.due("lives " + lives, x.log(lives), -1000);
        }
        t.due("lives -1", x.log(-1), -1000);
        t.due("lives 2", x.log(2), -1000);
        t.due("the tape stays", x.count(6), 8);
        t.due("nothing logged", x.logged(1), NONE);
        t.due("it is read then", x.log(1), NONE);
        t.due("a came", x.now(0), 1);
    }

    /** 36: "it is judged, all staying as it is (lives 0)". */
    private static void logJudgedStays(Checks t) {
        RedWhite x = t.on(TWO);
        x.take(0, 0);
        t.sentence(x, "score=0");
        t.due("judged", t.log(x, "comes a;p turns b;q takes a;comes b;", 0), NONE);
        t.due("cars", x.now(0), 0);
        t.due("score", x.player(0, 0), 0);
        t.due("colour", x.player(0, 2), 0);
        t.due("q", x.player(1, 2), NONE);
        t.due("said", x.said(NONE), 2);
        t.due("acts", x.undo(), 0);
    }

    /** 36: "or lived as far as it is not WRONG (1)". */
    private static void logLivedAsFar(Checks t) {
        RedWhite x = t.on(TWO + "cars 2;");
        t.due("the third is wrong", t.log(x, "p takes b;comes b;p takes a;comes a;q takes a;", 1), 2);
        t.due("cars", x.now(0), 1);
        t.due("score", x.player(0, 0), 2);
        t.due("what is behind is not lived", x.player(1, 2), NONE);
        t.due("to the end", t.log(x, "comes a;", 1), NONE);
        t.due("over", t.log(x, "comes a;comes a;", 1), 0);
        t.due("cars", x.now(0), 2);
    }

    /** 36: "the LINE that is WRONG; NONE: none", from 0 to the 40th. */
    private static void logWrongOrNone(Checks t) {
        RedWhite x = t.on("colour a 1;player p 0;");
        t.due("the first", t.log(x, "comes a;", 0), 0);
        t.due("the second", t.log(x, "comes grey;comes a;", 0), 1);
        t.due("the 13th", t.log(x, Checks.repeat("comes grey;", 13), 0), 12);
        t.due("none of twelve", t.log(x, Checks.repeat("comes grey;", 12), 0), NONE);
        t.due("none of none", t.log(x, "", 0), NONE);
    }

    /** 36: "-2 less the place of a FAULT"; nothing of it is lived. */
    private static void logFaultPlace(Checks t) {
        RedWhite x = t.on(TWO);
        t.logFault(x, "#", 1, 0);
        t.logFault(x, "comes a;comes a;#", 1, 16);
        t.due("not lived", x.now(0), 0);
        t.due("no act", x.undo(), NONE);
        t.logFault(x, Checks.repeat(" ", 401), 1, 400);
    }

    /** 37: "NONE: .. ahead of any", also behind one with a FAULT or -1000. */
    private static void loggedAheadOfAny(Checks t) {
        RedWhite x = t.on(TWO);
        for (int i = 0; i < 2; i++) {
            for (int what = 0; what < 4; what++) {
                t.due("logged " + what, x.logged(what), NONE);
            }
            t.logFault(x, "#", 1, 0);
            x.log(2);
        }
    }

    /** 37: "NONE: another what". */
    private static void loggedAnotherWhat(Checks t) {
        RedWhite x = t.on(TWO);
        t.log(x, "comes a;", 0);
        for (int what : FAR) {
            t.due("logged " + what, x.logged(what), NONE);
        }
        t.due("logged -1", x.logged(-1), NONE);
        t.due("logged 4", x.logged(4), NONE);
    }

    /** 37: "as for taking, 10 more as for turning, 20 more as for coming", each reason there is. */
    private static void loggedWhy(Checks t) {
        why(t, TWO, "p takes a;", 0);
        why(t, TWO, "p takes a;p takes b;", 2);
        why(t, TWO, "p takes a;q takes a;", 3);
        why(t, TWO + "cars 1;", "comes a;p takes a;", 1);
        why(t, TWO + "cars 1;", "comes a;p turns a;", 11);
        why(t, "colour a 1;player p 0;", "p turns a;", 12);
        why(t, TWO, "p turns a;", 13);
        why(t, TWO, "p takes a;p turns b;p turns a;", 13);
        why(t, TWO, "p takes a;p turns a;", 14);
        why(t, TWO + "cars 1;", "comes a;comes grey;", 21);
        why(t, TWO, "comes d;", 22);
    }

    private static void why(Checks t, String road, String log, int why) {
        for (int lives = 0; lives < 2; lives++) {
            RedWhite x = t.on(road);
            int lines = log.split(";").length;
            t.due("wrong line of " + log, t.log(x, log, lives), why == 0 ? NONE : lines - 1);
            t.due("why " + log, x.logged(0), why);
            t.due("lines that are not wrong of " + log, x.logged(1), why == 0 ? lines : lines - 1);
            RedWhite y = t.on(road);
            String good = why == 0 ? log : log.substring(0, log.lastIndexOf(';', log.length() - 2) + 1);
            t.due("lived " + good, t.log(y, lives == 0 ? "" : good, 1), NONE);
            alike(t, log, x, y);
        }
    }

    private static void alike(Checks t, String log, RedWhite x, RedWhite y) {
        t.due("cars of " + log, x.now(0), y.now(0));
        for (int p = 0; p < x.count(2); p++) {
            for (int what = 0; what < 4; what++) {
                t.due("player " + p + " " + what + " of " + log, x.player(p, what), y.player(p, what));
            }
        }
    }

    /** 37: "Of the latest log() that had no FAULT (and was not -1000)"; "2 cars that came then, 3 who won then (NONE)". */
    private static void loggedOfTheLatest(Checks t) {
        RedWhite x = t.on(TWO + "goal 2;cars 4;");
        x.come(NONE);
        t.log(x, "p takes b;comes a;", 0);
        t.due("cars that came ahead too", x.logged(2), 2);
        t.due("nobody yet", x.logged(3), NONE);
        t.log(x, "q takes b;comes b;comes b;", 0);
        t.due("wrong as it was over", x.logged(0), 21);
        t.due("cars", x.logged(2), 2);
        t.due("who won", x.logged(3), 1);
        t.logFault(x, "#", 1, 0);
        x.log(3);
        x.come(0);
        t.due("it stays", x.logged(3), 1);
        t.due("it stays", x.logged(2), 2);
        t.log(x, "comes a;comes a;", 1);
        t.due("who won: nobody of like ones", x.logged(3), NONE);
        t.due("cars", x.logged(2), 4);
        t.due("not wrong", x.logged(0), 0);
    }

    /** 38: "how many ONES (each not, bracket and other one)". */
    private static void sentenceOnes(Checks t) {
        RedWhite x = t.on("colour a 1;player p 0;");
        t.due("one", t.sentence(x, "won"), 1);
        t.due("a comparison is one", t.sentence(x, "score<1"), 1);
        t.due("has is one", t.sentence(x, "has a"), 1);
        t.due("not and one", t.sentence(x, "not won"), 2);
        t.due("bracket and one", t.sentence(x, "(won)"), 2);
        t.due("and, or are none", t.sentence(x, "won or leads and turned"), 3);
    }

    /** 38: "-1 less the place of a FAULT: it stays". */
    private static void sentenceStays(Checks t) {
        RedWhite x = t.on("player p 0;player q 0;");
        t.sentence(x, "number=1");
        t.sentenceFault(x, "number=0 or #", 1, 12);
        t.sentenceFault(x, "", 1, 0);
        t.due("said of one", x.said(NONE), 1);
        t.due("said of q", x.said(0), 1);
    }

    /** 39: "NONE: there is no SENTENCE". */
    private static void saidWithoutSentence(Checks t) {
        RedWhite x = t.on("player p 0;");
        t.due("how many", x.said(NONE), NONE);
        t.due("the first", x.said(0), NONE);
        t.sentenceFault(x, "#", 1, 0);
        t.due("none by a fault", x.said(NONE), NONE);
    }

    /** 39: "NONE: .. none such". */
    private static void saidNoneSuch(Checks t) {
        RedWhite x = t.on("player p 0;player q 0;player r 0;");
        t.sentence(x, "number=0 or number=2");
        t.due("how many", x.said(NONE), 2);
        t.due("the first", x.said(0), 0);
        t.due("the second", x.said(1), 2);
        t.due("the third", x.said(2), NONE);
        for (int far : FAR) {
            t.due("said " + far, x.said(far), NONE);
        }
        t.sentence(x, "number=3");
        t.due("of none", x.said(NONE), 0);
        t.due("the first of none", x.said(0), NONE);
    }

    /** "'leads' (nobody has more)". */
    private static void leadsNobodyHasMore(Checks t) {
        t.due("all alike", saidOf(t, "player p 2;player q 2;player r 2;", "leads"), 7);
        t.due("two of three", saidOf(t, "player p 1;player q 2;player r 2;", "leads"), 6);
        t.due("one of three", saidOf(t, "player p 3;player q 2;player r 2;", "leads"), 1);
        t.due("alone", saidOf(t, "player p 0;", "leads"), 1);
    }

    private static int saidOf(Checks t, String road, String sentence) {
        RedWhite x = t.on(road);
        t.sentence(x, sentence);
        return t.saidBits(x);
    }

    /** "needs: to the goal, 0 at least". */
    private static void needsZeroAtLeast(Checks t) {
        String road = "player p 3;player q 4;player r 8;goal 4;";
        t.due("needs 0", saidOf(t, road, "needs=0"), 6);
        t.due("needs 1", saidOf(t, road, "needs=1"), 1);
        t.due("needs below 0", saidOf(t, road, "needs<0"), 0);
        t.due("needs 9", saidOf(t, "player p 0;", "needs=9"), 1);
    }

    /** SIGNS: just below, at and above. */
    private static void comparisonsAtTheEdge(Checks t) {
        String road = "player p 2;player q 3;player r 4;";
        for (String what : new String[] {"score", "start"}) {
            t.due(what + "<3", saidOf(t, road, what + "<3"), 1);
            t.due(what + "=3", saidOf(t, road, what + "=3"), 2);
            t.due(what + ">3", saidOf(t, road, what + ">3"), 4);
        }
        t.due("needs<6", saidOf(t, road, "needs<6"), 4);
        t.due("needs=6", saidOf(t, road, "needs=6"), 2);
        t.due("needs>6", saidOf(t, road, "needs>6"), 1);
        t.due("number<1", saidOf(t, road, "number<1"), 1);
        t.due("number=1", saidOf(t, road, "number=1"), 2);
        t.due("number>1", saidOf(t, road, "number>1"), 4);
        t.due("number<0", saidOf(t, road, "number<0"), 0);
    }

    /** 'won': not yet, by one, by nobody. */
    private static void wonOnlyWhenOver(Checks t) {
        RedWhite x = t.on("player p 1;player q 0;cars 1;");
        t.sentence(x, "won");
        t.due("not yet", x.said(NONE), 0);
        x.come(NONE);
        t.due("p", t.saidBits(x), 1);
        RedWhite y = t.on("player p 1;player q 1;cars 1;");
        t.sentence(y, "won");
        y.come(NONE);
        t.due("nobody", y.said(NONE), 0);
    }

    /** 40: "(0, 1): true; false: no such one". */
    private static void imageNoSuch(Checks t) {
        RedWhite x = t.on(TWO);
        for (int far : FAR) {
            t.due("image " + far, x.image(far), false);
            t.due("restore " + far, x.restore(far), false);
        }
        t.due("image -1", x.image(-1), false);
        t.due("image 2", x.image(2), false);
        t.due("image 0", x.image(0), true);
        t.due("image 1", x.image(1), true);
    }

    /** 41: "false: no such one, or nothing is kept there": all stays then. */
    private static void restoreNoSuch(Checks t) {
        RedWhite x = t.on(TWO);
        x.come(0);
        t.due("nothing kept", x.restore(0), false);
        x.image(1);
        x.come(0);
        t.due("nothing kept there", x.restore(0), false);
        t.due("no such one", x.restore(-1), false);
        t.due("no such one", x.restore(2), false);
        t.due("all stays", x.now(0), 2);
        t.due("acts stay", x.undo(), 1);
    }

    /** 41: "nothing can be undone"; what is done behind it can be. */
    private static void restoreNothingUndone(Checks t) {
        RedWhite x = t.on(TWO);
        x.come(0);
        x.image(0);
        x.come(0);
        t.due("restored", x.restore(0), true);
        t.due("nothing", x.undo(), NONE);
        t.due("cars", x.now(0), 1);
        x.come(0);
        t.due("what is done then", x.undo(), 0);
        t.due("cars", x.now(0), 1);
    }

    /** 41: "(the tape, and what other calls told last, stays ..)". */
    private static void restoreLeavesTheRest(Checks t) {
        RedWhite x = t.on(TWO);
        t.due("kept without a sentence", x.image(0), true);
        t.log(x, "comes a;p turns a;", 0);
        Checks.tell(x, new byte[] {0, 0});
        x.scores();
        t.sentence(x, "won");
        t.sentenceFault(x, "has z", 3, 4);
        Checks.tell(x, "goal");
        x.come(0);
        t.due("restored", x.restore(0), true);
        t.due("tape", x.count(6), 4);
        t.due("fault", x.fault(), 3);
        t.due("logged", x.logged(0), 13);
        t.due("took", x.took(1), 1);
        t.due("no sentence then, none now", x.said(NONE), NONE);
    }

    /** 40, 41: two places, each its own; ROAD, all that is so and the SENTENCE. */
    private static void twoPlaces(Checks t) {
        RedWhite x = t.on(TWO);
        x.take(1, 2);
        x.turn(1, 0);
        x.come(0);
        t.sentence(x, "turned");
        x.image(0);
        Checks.tell(x, "colour z 3;land y 1 z 12;player w 2;goal 6;cars 3;");
        x.road();
        x.take(0, 0);
        x.come(0);
        t.sentence(x, "has z");
        x.image(1);
        x.restore(0);
        t.due("players", x.count(2), 2);
        t.due("score", x.player(1, 0), 1);
        t.due("turned", x.player(1, 3), 1);
        t.due("said", x.said(0), 1);
        t.due("land", x.land(0, 1), 4);
        x.restore(1);
        t.due("players", x.count(2), 1);
        t.due("score", x.player(0, 0), 5);
        t.due("goal", x.count(3), 6);
        t.due("cars", x.count(4), 3);
        t.due("said", x.said(0), 0);
        t.due("car", x.car(0), 0);
        t.due("not over", x.now(1), 0);
        t.due("comes", x.come(0), 0);
        t.due("over", x.now(2), 0);
        x.restore(0);
        t.due("back again", x.now(0), 1);
    }

    /** 40: what is kept in place k is the latest. */
    private static void imageKeptAnew(Checks t) {
        RedWhite x = t.on("");
        x.image(0);
        x.come(NONE);
        x.come(NONE);
        x.image(0);
        x.come(NONE);
        t.due("restored", x.restore(0), true);
        t.due("the latest", x.now(0), 2);
        x.come(NONE);
        x.restore(0);
        t.due("it is kept still", x.now(0), 2);
    }
}
