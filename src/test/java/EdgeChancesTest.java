/** The edges that promises 14 to 28 and 33 name, and those of fractions: one method for a sentence. */
final class EdgeChancesTest {
    private static final int NONE = RedWhite.NONE;
    private static final int[] FAR = {Integer.MIN_VALUE, -1000, -3, -2, 4, 13, 256, Integer.MAX_VALUE};
    private static final String TWO = "colour a 1;colour b 1;colour d 1;land l 1 a 6 b 3;land m 1 d 6;player p 0;player q 0;change;";

    public static void main(String[] args) {
        Checks t = new Checks();
        fractions(t);
        odds(t);
        choices(t);
        fairness(t);
        rights(t);
        t.finish();
    }

    private static void fractions(Checks t) {
        leastTerms(t);
        noughtAndOne(t);
        neitherAboveNorBelow(t);
        throwingChangesNothing(t);
        byTheRoadThatIsNow(t);
    }

    private static void odds(Checks t) {
        likelyNoSuch(t);
        likelyOver(t);
        likelyNobodyElse(t);
        nobodyEdges(t);
        whereNoSuch(t);
        whereByWhatCame(t);
        nextNoSuch(t);
        nextWhenOver(t);
        leftEdges(t);
        overNoSuch(t);
        overEdges(t);
        luckNotInLeastTerms(t);
        luckLongest(t);
        exactAtAnyLength(t);
        favouriteOfLikeOnes(t);
        favouriteWithoutPlayers(t);
    }

    private static void choices(Checks t) {
        chosenNoSuch(t);
        chosenHisOwn(t);
        chosenWhileThereIsOne(t);
        chosenOfLikeOnes(t);
        chosenByThoseBehind(t);
        chosenWhenOver(t);
        chanceNoSuch(t);
        chanceThen(t);
        whichNoSuch(t);
        whichOver(t);
        whichNoneFree(t);
        whichOfLikeOnes(t);
    }

    private static void fairness(Checks t) {
        fairNotTwo(t);
        fairOfLikeOnes(t);
        fairFromTheBeginning(t);
        fairZeroToEight(t);
        goalNotTwo(t);
        goalOfLikeOnes(t);
        goalOneToNine(t);
    }

    private static void rights(Checks t) {
        rightNoSuch(t);
        rightOfOneWhoMayNot(t);
        rightToTheLastCar(t);
        rightAtAnyLength(t);
        bestMayNot(t);
        bestOnlyIfLikelier(t);
        bestOfLikeOnes(t);
        bestNoneFree(t);
        alsoNoSuch(t);
        alsoNotFree(t);
        alsoHasNoneYet(t);
        alsoNought(t);
    }

    /** "in least terms". */
    private static void leastTerms(Checks t) {
        RedWhite x = t.on("colour a 1;colour b 1;land l 3 a 6 b 4;land m 9 a 3;player p 0;goal 1;cars 1;");
        t.fraction("where", x.where(1, 0), x.where(1, 1), 3, 4);
        t.fraction("next a", x.next(0, 0), x.next(0, 1), 5, 16);
        x.take(0, 1);
        t.fraction("over", x.over(1, 0), x.over(1, 1), 1, 1);
        RedWhite y = t.on("colour a 1;land l 4 a 4;player p 0;player q 0;goal 1;cars 2;");
        y.take(0, 0);
        t.fraction("likely", y.likely(0, 0), y.likely(0, 1), 5, 9);
        t.fraction("nobody", y.nobody(0), y.nobody(1), 4, 9);
        t.fraction("left", y.left(0), y.left(1), 5, 3);
        t.fraction("right", y.right(0, 0), y.right(0, 1), 5, 9);
        t.fraction("chance", y.chance(0, 0), y.chance(0, 1), 5, 9);
    }

    /** 0 is 0 of 1, and what is sure is 1 of 1. */
    private static void noughtAndOne(Checks t) {
        RedWhite x = t.on("colour a 1;colour b 1;land l 7 a 12;player p 0;player q 0;change;");
        x.take(0, 0);
        t.fraction("sure", x.likely(0, 0), x.likely(0, 1), 1, 1);
        t.fraction("never", x.likely(1, 0), x.likely(1, 1), 0, 1);
        t.fraction("never nobody", x.nobody(0), x.nobody(1), 0, 1);
        t.fraction("b never", x.next(1, 0), x.next(1, 1), 0, 1);
        t.fraction("grey never", x.next(NONE, 0), x.next(NONE, 1), 0, 1);
        t.fraction("nothing more by b", x.also(0, 1, 0), x.also(0, 1, 1), 0, 1);
        t.fraction("just nine", x.left(0), x.left(1), 9, 1);
        t.fraction("not behind 8", x.over(8, 0), x.over(8, 1), 0, 1);
        t.fraction("behind 9", x.over(9, 0), x.over(9, 1), 1, 1);
    }

    /** "told by two numbers: 0 above, 1 below": no other what. */
    private static void neitherAboveNorBelow(Checks t) {
        RedWhite x = t.on(TWO);
        x.take(0, 0);
        for (int far : new int[] {-1, 2, 3, Integer.MIN_VALUE, Integer.MAX_VALUE}) {
            t.refused("likely " + far, () -> x.likely(0, far));
            t.refused("nobody " + far, () -> x.nobody(far));
            t.refused("where " + far, () -> x.where(0, far));
            t.refused("next " + far, () -> x.next(0, far));
            t.refused("next grey " + far, () -> x.next(NONE, far));
            t.refused("left " + far, () -> x.left(far));
            t.refused("over " + far, () -> x.over(0, far));
            t.refused("chance " + far, () -> x.chance(0, far));
            t.refused("right " + far, () -> x.right(0, far));
            t.refused("right of one who may not " + far, () -> x.right(1, far));
            t.refused("also " + far, () -> x.also(0, 1, far));
            t.refused("luck " + far, () -> x.luck(far));
        }
    }

    /** "A call that throws changes nothing." */
    private static void throwingChangesNothing(Checks t) {
        RedWhite x = t.on(TWO);
        x.take(0, 0);
        x.come(0);
        Checks.tell(x, "abc");
        t.refused("player", () -> x.player(7, 0));
        t.refused("likely", () -> x.likely(7, 0));
        t.refused("where", () -> x.where(7, 0));
        t.refused("next", () -> x.next(7, 0));
        t.refused("over", () -> x.over(99, 0));
        t.refused("chance", () -> x.chance(7, 0));
        t.refused("right", () -> x.right(7, 0));
        t.refused("also", () -> x.also(7, 7, 0));
        t.refused("luck", () -> x.luck(7));
        t.due("tape", x.count(6), 3);
        t.due("score", x.player(0, 0), 1);
        t.due("cars", x.now(0), 1);
        t.due("acts", x.undo(), 1);
    }

    /** What was told of one ROAD is not told of the next one, nor behind restoring another. */
    private static void byTheRoadThatIsNow(Checks t) {
        String head = "colour a 1;colour b 1;colour d 1;ends a;land l 1 a 6;player p 0;player q ";
        RedWhite x = t.on(head + "1;cars 1;change;");
        x.take(0, 1);
        byQ(t, x, 1);
        x.image(0);
        Checks.tell(x, head + "0;cars 1;change;");
        x.road();
        x.take(0, 1);
        byQ(t, x, 0);
        x.image(1);
        x.restore(0);
        byQ(t, x, 1);
        x.restore(1);
        byQ(t, x, 0);
        RedWhite y = new RedWhite();
        t.due("no players: nobody", y.nobody(0), 1);
        t.due("none chosen", y.chosen(0), NONE);
        Checks.tell(y, "colour a 1;player p 0;");
        y.road();
        t.due("now there is one", y.nobody(0), 0);
        t.due("he takes a", y.chosen(0), 0);
        t.due("he wins then", y.chance(0, 0), 1);
        t.due("favourite", y.favourite(), 0);
        y.road();
        t.due("no players again", y.nobody(0), 1);
    }

    /** With a start of 1 q is ahead, whatever p does; with 0 p may win by a. */
    private static void byQ(Checks t, RedWhite x, int start) {
        t.fraction("q", x.likely(1, 0), x.likely(1, 1), start, 1);
        t.fraction("nobody", x.nobody(0), x.nobody(1), 1 - start, 1);
        t.due("q takes", x.chosen(1), 0);
        t.fraction("q by chance", x.chance(1, 0), x.chance(1, 1), 1, start == 1 ? 1 : 2);
        t.due("p's best", x.best(0), start == 1 ? NONE : 0);
        t.fraction("p's right", x.right(0, 0), x.right(0, 1), 1 - start, start == 1 ? 1 : 2);
    }

    /** 14: "NoSuchElementException: no such ones". */
    private static void likelyNoSuch(Checks t) {
        RedWhite x = t.on(TWO);
        for (int far : FAR) {
            t.refused("likely " + far, () -> x.likely(far, 0));
        }
        t.refused("likely -1", () -> x.likely(-1, 0));
        t.refused("likely 2", () -> x.likely(2, 0));
        t.refused("without players", () -> t.on("colour a 1;").likely(0, 0));
    }

    /** 14: "(over: 1 or 0)". */
    private static void likelyOver(Checks t) {
        RedWhite x = t.on("colour a 2;ends a;land l 1 a 3;land m 2 a 1;player p 0;player q 1;player r 1;");
        x.take(0, 0);
        x.come(0);
        for (int p = 0; p < 3; p++) {
            t.fraction("likely " + p, x.likely(p, 0), x.likely(p, 1), p == 0 ? 1 : 0, 1);
        }
        RedWhite two = t.on("player p 4;player q 3;player r 7;goal 3;");
        for (int p = 0; p < 3; p++) {
            t.fraction("at first " + p, two.likely(p, 0), two.likely(p, 1), p == 0 ? 1 : 0, 1);
        }
        RedWhite like = t.on("player p 1;player q 1;player r 0;cars 1;");
        like.come(NONE);
        for (int p = 0; p < 3; p++) {
            t.fraction("like ones " + p, like.likely(p, 0), like.likely(p, 1), 0, 1);
        }
    }

    /** By nobody's colours only who is ahead wins. */
    private static void likelyNobodyElse(Checks t) {
        RedWhite x = t.on("colour a 3;land l 1 a 12;player p 1;player q 0;");
        t.fraction("ahead without colours", x.likely(0, 0), x.likely(0, 1), 1, 1);
        t.fraction("behind without colours", x.likely(1, 0), x.likely(1, 1), 0, 1);
        t.fraction("alone", t.on("player p 0;").likely(0, 0), 1, 1, 1);
    }

    /** 15: how likely nobody wins, also without PLAYERS or when it is over. */
    private static void nobodyEdges(Checks t) {
        RedWhite none = new RedWhite();
        t.fraction("without players", none.nobody(0), none.nobody(1), 1, 1);
        RedWhite one = t.on("player p 0;");
        t.fraction("one always wins", one.nobody(0), one.nobody(1), 0, 1);
        RedWhite two = t.on("player p 0;player q 0;");
        t.fraction("like ones", two.nobody(0), two.nobody(1), 1, 1);
        RedWhite over = t.on("player p 1;player q 1;goal 1;");
        t.fraction("the first won", over.nobody(0), over.nobody(1), 0, 1);
        RedWhite last = t.on("player p 1;player q 1;cars 1;");
        last.come(NONE);
        t.fraction("over and nobody", last.nobody(0), last.nobody(1), 1, 1);
    }

    /** 16: "NoSuchElementException: no such ones". */
    private static void whereNoSuch(Checks t) {
        RedWhite x = t.on(TWO);
        for (int far : FAR) {
            t.refused("where " + far, () -> x.where(far, 0));
        }
        t.refused("where -1", () -> x.where(-1, 0));
        t.refused("where 2", () -> x.where(2, 0));
        t.refused("without lands", () -> new RedWhite().where(0, 0));
    }

    /** "from what came each LAND is as likely as its CHANCE times, for each car, how many of 12 are such in it". */
    private static void whereByWhatCame(Checks t) {
        RedWhite x = t.on("colour a 1;land l 9 a 1;land m 1 a 9;land n 5;cars 12;");
        t.fraction("l at first", x.where(0, 0), x.where(0, 1), 3, 5);
        x.come(0);
        t.fraction("l by a", x.where(0, 0), x.where(0, 1), 1, 2);
        t.fraction("not n by a", x.where(2, 0), x.where(2, 1), 0, 1);
        x.come(NONE);
        t.fraction("l by grey", x.where(0, 0), x.where(0, 1), 11, 14);
        t.fraction("m by grey", x.where(1, 0), x.where(1, 1), 3, 14);
        t.fraction("still not n", x.where(2, 0), x.where(2, 1), 0, 1);
        x.undo();
        x.undo();
        t.fraction("n when it is undone", x.where(2, 0), x.where(2, 1), 1, 3);
    }

    /** 17: "(NONE: grey ..) NoSuchElementException: no such ones". */
    private static void nextNoSuch(Checks t) {
        RedWhite x = t.on(TWO);
        for (int far : FAR) {
            t.refused("next " + far, () -> x.next(far, 0));
        }
        t.refused("next 3", () -> x.next(3, 0));
        t.fraction("grey", x.next(NONE, 0), x.next(NONE, 1), 3, 8);
        RedWhite none = new RedWhite();
        t.refused("no colours", () -> none.next(0, 0));
        t.fraction("all grey", none.next(NONE, 0), none.next(NONE, 1), 1, 1);
    }

    /** 17: "also if it is over". */
    private static void nextWhenOver(Checks t) {
        RedWhite x = t.on("colour a 1;ends a;land l 1 a 6;land m 1 a 3;player p 0;");
        t.fraction("ahead", x.next(0, 0), x.next(0, 1), 3, 8);
        x.come(0);
        t.due("over", x.now(1), 1);
        t.fraction("by what came", x.next(0, 0), x.next(0, 1), 5, 12);
        t.fraction("grey", x.next(NONE, 0), x.next(NONE, 1), 7, 12);
        RedWhite first = t.on("colour a 1;land l 1 a 4;player p 8;goal 8;");
        t.fraction("over at first", first.next(0, 0), first.next(0, 1), 1, 3);
    }

    /** 18: "till it is over": 0 when it is. */
    private static void leftEdges(Checks t) {
        RedWhite x = t.on("player p 0;cars 3;");
        for (int more = 3; more >= 0; more--) {
            t.fraction("left", x.left(0), x.left(1), more, 1);
            x.come(NONE);
        }
        RedWhite ends = t.on("colour a 1;ends a;land l 1 a 12;");
        t.fraction("one more", ends.left(0), ends.left(1), 1, 1);
        ends.come(0);
        t.fraction("ended", ends.left(0), ends.left(1), 0, 1);
        t.fraction("over at first", t.on("player p 8;goal 1;").left(0), 1, 0, 1);
        RedWhite half = t.on("colour a 1;ends a;land l 1 a 6;cars 2;");
        t.fraction("by halves", half.left(0), half.left(1), 3, 2);
    }

    /** 19: "n more cars (0 to 12) .. NoSuchElementException: no such ones". */
    private static void overNoSuch(Checks t) {
        RedWhite x = t.on(TWO + "cars 1;");
        for (int far : FAR) {
            if (far != 4) {
                t.refused("over " + far, () -> x.over(far, 0));
            }
        }
        t.refused("over -1", () -> x.over(-1, 0));
        t.fraction("over 0", x.over(0, 0), x.over(0, 1), 0, 1);
        t.fraction("over 12, of 1 car", x.over(12, 0), x.over(12, 1), 1, 1);
        x.come(0);
        t.refused("over 13, when it is over", () -> x.over(13, 0));
        t.refused("over -1, when it is over", () -> x.over(-1, 0));
        t.fraction("over 0, when it is over", x.over(0, 0), x.over(0, 1), 1, 1);
    }

    /** 19: "behind n more cars or sooner". */
    private static void overEdges(Checks t) {
        RedWhite x = t.on("colour a 1;ends a;land l 1 a 6;cars 4;");
        long[] above = {0, 1, 3, 7, 1, 1, 1, 1, 1, 1, 1, 1, 1};
        long[] below = {1, 2, 4, 8, 1, 1, 1, 1, 1, 1, 1, 1, 1};
        for (int n = 0; n <= 12; n++) {
            t.fraction("over " + n, x.over(n, 0), x.over(n, 1), above[n], below[n]);
        }
        x.come(NONE);
        t.fraction("counted from now", x.over(2, 0), x.over(2, 1), 3, 4);
        t.fraction("counted from now", x.over(3, 0), x.over(3, 1), 1, 1);
    }

    /** 33: "12 to the number of cars times all CHANCES below, not in least terms". */
    private static void luckNotInLeastTerms(Checks t) {
        RedWhite x = t.on("colour a 1;land l 2 a 6;land m 4 a 3;");
        t.fraction("nothing came", x.luck(0), x.luck(1), 6, 6);
        x.come(0);
        t.fraction("a", x.luck(0), x.luck(1), 24, 72);
        x.come(NONE);
        t.fraction("a and grey", x.luck(0), x.luck(1), 180, 864);
        RedWhite none = new RedWhite();
        t.fraction("without lands", none.luck(0), none.luck(1), 1, 1);
        none.come(NONE);
        t.fraction("without lands, grey", none.luck(0), none.luck(1), 12, 12);
    }

    /** The longest: twelve cars and chances of 27 fit a long. */
    private static void luckLongest(Checks t) {
        RedWhite x = t.on("colour a 1;land l 9 a 12;land m 9 a 12;land n 9 a 12;");
        for (int i = 0; i < 12; i++) {
            x.come(0);
        }
        long most = 27L * 8916100448256L;
        t.fraction("sure", x.luck(0), x.luck(1), most, most);
        t.fraction("next", x.next(0, 0), x.next(0, 1), 1, 1);
        t.fraction("where", x.where(2, 0), x.where(2, 1), 1, 3);
    }

    /** "All these are exact": by halves, for as many cars as there may be, from each of them on. */
    private static void exactAtAnyLength(Checks t) {
        RedWhite x = t.on("colour a 1;colour b 1;ends a;land l 1 a 6 b 6;player p 0;player q 0;");
        x.take(0, 0);
        long twelves = 1;
        for (int came = 0; came < 12; came++) {
            int rest = 12 - came;
            for (int n = 0; n < rest; n++) {
                t.fraction("over behind " + came + " and " + n, x.over(n, 0), x.over(n, 1), (1L << n) - 1, 1L << n);
            }
            t.fraction("over behind all", x.over(rest, 0), x.over(rest, 1), 1, 1);
            t.fraction("left behind " + came, x.left(0), x.left(1), (1L << rest) - 1, 1L << rest - 1);
            t.fraction("likely behind " + came, x.likely(0, 0), x.likely(0, 1), (1L << rest) - 1, 1L << rest);
            t.fraction("nobody behind " + came, x.nobody(0), x.nobody(1), 1, 1L << rest);
            t.fraction("luck behind " + came, x.luck(0), x.luck(1), twelves >> came, twelves);
            twelves *= 12;
            x.come(1);
        }
        t.fraction("luck behind 12", x.luck(0), x.luck(1), twelves >> 12, twelves);
    }

    /** 20: "of like ones the first". */
    private static void favouriteOfLikeOnes(Checks t) {
        t.due("all alike", t.on("player p 0;player q 0;player r 0;").favourite(), 0);
        t.due("the last two ahead: nobody wins", t.on("player p 0;player q 1;player r 1;").favourite(), 0);
        t.due("the last", t.on("player p 0;player q 0;player r 1;").favourite(), 2);
        RedWhite x = t.on("colour a 1;colour b 1;land l 1 a 4 b 4;player p 0;player q 0;player r 0;goal 1;");
        x.take(2, 0);
        x.take(1, 1);
        t.due("the first of the two", x.favourite(), 1);
        RedWhite over = t.on("player p 0;player q 2;player r 2;goal 2;");
        t.due("who won", over.favourite(), 1);
    }

    /** 20: "NONE: no PLAYERS". */
    private static void favouriteWithoutPlayers(Checks t) {
        t.due("no players", t.on("colour a 1;land l 1 a 1;").favourite(), NONE);
        t.due("a new object", new RedWhite().favourite(), NONE);
    }

    /** 21: "NONE: none, no such one". */
    private static void chosenNoSuch(Checks t) {
        RedWhite x = t.on(TWO);
        for (int far : FAR) {
            t.due("chosen " + far, x.chosen(far), NONE);
        }
        t.due("chosen -1", x.chosen(-1), NONE);
        t.due("chosen 2", x.chosen(2), NONE);
        t.due("no colours", t.on("player p 0;").chosen(0), NONE);
        t.due("no players", t.on("colour a 1;").chosen(0), NONE);
    }

    /** 21: "(his own, if he has one)", though another were better. */
    private static void chosenHisOwn(Checks t) {
        RedWhite x = t.on("colour a 1;colour b 3;land l 1 a 1 b 11;player p 0;player q 0;change;");
        x.take(1, 0);
        t.due("q's own", x.chosen(1), 0);
        t.due("p takes b", x.chosen(0), 1);
        t.due("nothing is taken by asking", x.player(0, 2), NONE);
    }

    /** "take one each that is free, while there is one". */
    private static void chosenWhileThereIsOne(Checks t) {
        RedWhite x = t.on("colour a 1;colour b 1;land l 1 a 3 b 6;player p 0;player q 0;player r 0;");
        t.due("p", x.chosen(0), 1);
        t.due("q", x.chosen(1), 0);
        t.due("none for r", x.chosen(2), NONE);
        x.take(1, 1);
        t.due("p takes the other one", x.chosen(0), 0);
        t.due("none for r", x.chosen(2), NONE);
        x.take(2, 0);
        t.due("none for p", x.chosen(0), NONE);
    }

    /** "of like ones the first". */
    private static void chosenOfLikeOnes(Checks t) {
        RedWhite x = t.on("colour a 1;colour b 1;colour d 1;colour e 1;land l 1 a 2 b 3 d 3 e 3;player p 0;player q 0;goal 1;");
        t.due("p takes b", x.chosen(0), 1);
        t.due("q takes d", x.chosen(1), 2);
        RedWhite none = t.on("colour a 1;colour b 1;player p 0;player q 0;player r 0;");
        t.due("all in vain: the first", none.chosen(0), 0);
        t.due("then the next", none.chosen(1), 1);
    }

    /**
     * "each so that he is likeliest to win, as those behind do likewise": alone p would win by either, so
     * that he would take the first; but by two cars of b q would have the goal, so p takes b.
     */
    private static void chosenByThoseBehind(Checks t) {
        RedWhite x = t.on("colour a 1;colour b 2;land l 1 a 8 b 4;player p 3;player q 0;goal 4;cars 2;");
        t.due("p keeps b from q", x.chosen(0), 1);
        t.due("q takes a", x.chosen(1), 0);
        t.fraction("chance of p", x.chance(0, 0), x.chance(0, 1), 1, 1);
        t.fraction("chance of q", x.chance(1, 0), x.chance(1, 1), 0, 1);
        x.take(0, 0);
        t.due("q would take b", x.chosen(1), 1);
        t.fraction("chance of p by a", x.chance(0, 0), x.chance(0, 1), 8, 9);
        t.fraction("chance of q by b", x.chance(1, 0), x.chance(1, 1), 1, 9);
    }

    /** When it is over all are alike: the first that are free. */
    private static void chosenWhenOver(Checks t) {
        RedWhite x = t.on("colour a 1;colour b 3;colour d 1;land l 1 a 1 b 11;player p 0;player q 8;player r 0;goal 8;");
        t.due("p", x.chosen(0), 0);
        t.due("q", x.chosen(1), 1);
        t.due("r", x.chosen(2), 2);
        t.fraction("q won", x.chance(1, 0), x.chance(1, 1), 1, 1);
        t.fraction("p did not", x.chance(0, 0), x.chance(0, 1), 0, 1);
    }

    /** 22: "NoSuchElementException: no such ones". */
    private static void chanceNoSuch(Checks t) {
        RedWhite x = t.on(TWO);
        for (int far : FAR) {
            t.refused("chance " + far, () -> x.chance(far, 0));
        }
        t.refused("chance -1", () -> x.chance(-1, 0));
        t.refused("chance 2", () -> x.chance(2, 0));
        t.refused("no players", () -> new RedWhite().chance(0, 0));
    }

    /** 22: "How likely he wins then": when all have taken; as likely as now, if all have one. */
    private static void chanceThen(Checks t) {
        RedWhite x = t.on("colour a 1;colour b 1;land l 1 a 6 b 3;player p 0;player q 0;goal 1;cars 1;");
        t.fraction("p by a", x.chance(0, 0), x.chance(0, 1), 1, 2);
        t.fraction("q by b", x.chance(1, 0), x.chance(1, 1), 1, 4);
        t.fraction("p has none now", x.likely(0, 0), x.likely(0, 1), 0, 1);
        x.take(0, 1);
        x.take(1, 0);
        t.fraction("p by b", x.chance(0, 0), x.chance(0, 1), 1, 4);
        t.fraction("q by a", x.chance(1, 0), x.chance(1, 1), 1, 2);
        RedWhite none = t.on("player p 1;player q 0;");
        t.fraction("none to take", none.chance(0, 0), none.chance(0, 1), 1, 1);
    }

    /** 23: "NONE: .. no such one". */
    private static void whichNoSuch(Checks t) {
        RedWhite x = t.on(TWO);
        for (int far : FAR) {
            t.due("which " + far, x.which(far), NONE);
        }
        t.due("which -1", x.which(-1), NONE);
        t.due("which 2", x.which(2), NONE);
    }

    /** 23: "NONE: .. it is over". */
    private static void whichOver(Checks t) {
        RedWhite x = t.on(TWO + "cars 1;");
        t.due("not over", x.which(0) != NONE, true);
        x.come(0);
        t.due("over", x.which(0), NONE);
        t.due("over at first", t.on("colour a 1;player p 1;goal 1;").which(0), NONE);
    }

    /** 23: "NONE: none": no COLOUR is free; his own is not. */
    private static void whichNoneFree(Checks t) {
        RedWhite x = t.on("colour a 1;colour b 1;land l 1 a 6 b 3;player p 0;player q 0;");
        x.take(0, 0);
        t.due("the other one", x.which(0), 1);
        t.due("for q the same", x.which(1), 1);
        x.take(1, 1);
        t.due("none for p", x.which(0), NONE);
        t.due("none for q", x.which(1), NONE);
        t.due("no colours", t.on("player p 0;").which(0), NONE);
    }

    /** 23: "of like ones the first", also if he can't win by any. */
    private static void whichOfLikeOnes(Checks t) {
        RedWhite x = t.on("colour a 1;colour b 2;colour d 2;land l 1 a 3 b 3 d 3;player p 0;player q 0;goal 2;cars 1;");
        t.due("b as d", x.which(0), 0);
        RedWhite more = t.on("colour a 1;colour b 1;colour d 1;land l 1 a 2 b 3 d 3;player p 0;player q 0;goal 1;");
        t.due("b as d", more.which(1), 1);
        t.due("in vain", t.on("colour a 1;colour b 1;player p 0;player q 1;").which(0), 0);
    }

    /** 24: "NONE: no such one, there are not two PLAYERS". */
    private static void fairNotTwo(Checks t) {
        RedWhite x = t.on(TWO);
        for (int far : FAR) {
            t.due("fair " + far, x.fair(far), NONE);
        }
        t.due("fair -1", x.fair(-1), NONE);
        t.due("fair 2", x.fair(2), NONE);
        t.due("fair of none", new RedWhite().fair(0), NONE);
        t.due("fair of one", t.on("player p 0;").fair(0), NONE);
        for (int p = 0; p < 3; p++) {
            t.due("fair of three", t.on("player p 0;player q 0;player r 0;").fair(p), NONE);
        }
    }

    /** "of like ones the least". */
    private static void fairOfLikeOnes(Checks t) {
        // q has the goal at first: p won with 4 or more, q with less; all are as unlike, so it is 0.
        t.due("all as unlike", t.on("player p 3;player q 8;goal 4;").fair(0), 0);
        // Nobody has a colour, so only with the same start neither wins.
        t.due("just the same", t.on("player p 3;player q 6;").fair(0), 6);
        RedWhite x = t.on("colour a 3;land l 1 a 12;player p 0;player q 0;goal 3;");
        x.take(0, 0);
        t.due("p always wins, as unlike with any", x.fair(0), 0);
        // With less than 3 p wins by the first car, with 3 or more q has won at first: as unlike with any.
        t.due("one of them always wins", x.fair(1), 0);
    }

    /** "from the beginning, by the COLOURS that they have": what came does not matter, also when it is over. */
    private static void fairFromTheBeginning(Checks t) {
        RedWhite x = t.on("colour a 1;colour b 1;land l 1 a 4 b 4;player p 0;player q 2;goal 5;change;");
        x.take(0, 0);
        x.take(1, 1);
        t.due("fair", x.fair(0), 2);
        int goal = x.goal();
        for (int i = 0; i < 5; i++) {
            x.come(0);
            t.due("fair behind a car", x.fair(0), 2);
            t.due("goal behind a car", x.goal(), goal);
        }
        t.due("over", x.now(1), 1);
        t.due("of the other one as told", x.fair(1), 0);
    }

    /** "0 to 8". */
    private static void fairZeroToEight(Checks t) {
        for (int start = 0; start <= 8; start++) {
            t.due("as " + start, t.on("player p 3;player q " + start + ";").fair(0), start);
            t.due("as " + start, t.on("player p " + start + ";player q 3;").fair(1), start);
        }
    }

    /** 25: "NONE: there are not two PLAYERS". */
    private static void goalNotTwo(Checks t) {
        t.due("none", new RedWhite().goal(), NONE);
        t.due("one", t.on("player p 0;").goal(), NONE);
        t.due("three", t.on("player p 0;player q 0;player r 0;").goal(), NONE);
        t.due("two", t.on("player p 0;player q 0;").goal(), 1);
    }

    /** FAIR GOAL "likewise": of like ones the least, by the STARTS as told, by no goal that is told. */
    private static void goalOfLikeOnes(Checks t) {
        t.due("like at any", t.on("player p 0;player q 0;goal 5;").goal(), 1);
        t.due("unlike at any", t.on("player p 1;player q 0;").goal(), 1);
        // Up to 4 the first has the goal at once; from 5 on nobody wins.
        t.due("nobody wins from 5 on", t.on("player p 4;player q 4;goal 2;").goal(), 5);
    }

    /** "FAIR GOAL (1 to 9)". */
    private static void goalOneToNine(Checks t) {
        for (int start = 0; start <= 8; start++) {
            t.due("goal by " + start, t.on("player p " + start + ";player q " + start + ";").goal(), start + 1);
        }
    }

    /** 26: "NoSuchElementException: no such ones". */
    private static void rightNoSuch(Checks t) {
        RedWhite x = t.on(TWO);
        for (int far : FAR) {
            t.refused("right " + far, () -> x.right(far, 0));
        }
        t.refused("right -1", () -> x.right(-1, 0));
        t.refused("right 2", () -> x.right(2, 0));
    }

    /** "(if he may)": as likely as he is, if he has none yet, turned already, there is no changing, it is over. */
    private static void rightOfOneWhoMayNot(Checks t) {
        String road = "colour a 1;colour b 1;land l 1 a 3 b 6;player p 0;goal 1;player q 0;cars 1;";
        RedWhite fixed = t.on(road);
        fixed.take(0, 0);
        t.fraction("no changing", fixed.right(0, 0), fixed.right(0, 1), 1, 4);
        RedWhite x = t.on(road + "change;");
        t.fraction("he has none yet", x.right(0, 0), x.right(0, 1), 0, 1);
        x.take(0, 0);
        t.fraction("he may", x.right(0, 0), x.right(0, 1), 1, 2);
        x.take(1, 1);
        t.fraction("none is free", x.right(0, 0), x.right(0, 1), 1, 4);
        x.undo();
        x.turn(0, 1);
        t.fraction("turned already", x.right(0, 0), x.right(0, 1), 1, 2);
        x.come(0);
        t.fraction("over", x.right(0, 0), x.right(0, 1), 0, 1);
        RedWhite won = t.on("colour a 1;colour b 1;land l 1 a 3;player p 0;player q 0;goal 1;change;");
        won.take(0, 0);
        won.come(0);
        t.fraction("over, he won", won.right(0, 0), won.right(0, 1), 1, 1);
    }

    /** "ahead of any car from now on": the last one too. */
    private static void rightToTheLastCar(Checks t) {
        // The first car tells the land; ahead of the last he turns to what comes there for sure.
        RedWhite x = t.on("colour a 1;colour b 1;colour d 1;land l 1 d 12;land m 1 b 12;player p 0;player q 0;cars 2;change;");
        x.take(0, 0);
        t.fraction("he knows ahead of the last", x.right(0, 0), x.right(0, 1), 1, 1);
        t.due("so he waits, or turns to what is as good", x.best(0), NONE);
        x.come(1);
        t.due("then b", x.best(0), 1);
        x.undo();
        x.come(2);
        t.due("then d", x.best(0), 2);
        x.come(2);
        t.due("over", x.best(0), NONE);
        t.fraction("over", x.right(0, 0), x.right(0, 1), 0, 1);
    }

    /** He wins as soon as a comes, by waiting with a as by turning to it from d, which never comes. */
    private static void rightAtAnyLength(Checks t) {
        String road = "colour a 1;colour b 1;colour d 1;ends a;land l 1 a 6 b 6;player p 0;player q 0;change;";
        RedWhite waits = t.on(road);
        RedWhite turns = t.on(road);
        waits.take(0, 0);
        turns.take(0, 2);
        for (int rest = 12; rest > 0; rest--) {
            long all = 1L << rest;
            t.fraction("right by waiting " + rest, waits.right(0, 0), waits.right(0, 1), all - 1, all);
            t.due("waits " + rest, waits.best(0), NONE);
            t.fraction("right by turning " + rest, turns.right(0, 0), turns.right(0, 1), all - 1, all);
            t.due("turns " + rest, turns.best(0), 0);
            waits.come(1);
            turns.come(1);
        }
    }

    /** 27: "NONE: he waits, may not, it is over, no such one". */
    private static void bestMayNot(Checks t) {
        String road = "colour a 1;colour b 3;land l 1 a 1 b 9;player p 0;player q 0;cars 1;";
        RedWhite fixed = t.on(road);
        fixed.take(0, 0);
        t.due("no changing", fixed.best(0), NONE);
        RedWhite x = t.on(road + "change;");
        for (int far : FAR) {
            t.due("best " + far, x.best(far), NONE);
        }
        t.due("best -1", x.best(-1), NONE);
        t.due("best 2", x.best(2), NONE);
        t.due("he has none yet", x.best(0), NONE);
        x.take(0, 0);
        t.due("he may", x.best(0), 1);
        t.due("another has none", x.best(1), NONE);
        x.turn(0, 1);
        t.due("turned already", x.best(0), NONE);
        x.undo();
        x.come(NONE);
        t.due("over", x.best(0), NONE);
    }

    /** "to TURN, if that is likelier than to wait": not if it is as likely. */
    private static void bestOnlyIfLikelier(Checks t) {
        RedWhite like = t.on("colour a 1;colour b 1;land l 1 a 4 b 4;player p 0;player q 0;goal 1;cars 1;change;");
        like.take(0, 0);
        t.due("as likely", like.best(0), NONE);
        RedWhite more = t.on("colour a 1;colour b 1;land l 1 a 4 b 5;player p 0;player q 0;goal 1;cars 1;change;");
        more.take(0, 0);
        t.due("likelier", more.best(0), 1);
        RedWhite less = t.on("colour a 1;colour b 1;land l 1 a 5 b 4;player p 0;player q 0;goal 1;cars 1;change;");
        less.take(0, 0);
        t.due("less likely", less.best(0), NONE);
        RedWhite sure = t.on("colour a 1;colour b 3;land l 1 b 12;player p 1;player q 0;change;");
        sure.take(0, 0);
        t.due("he wins anyhow", sure.best(0), NONE);
    }

    /** "to the first of those by which it is likeliest". */
    private static void bestOfLikeOnes(Checks t) {
        RedWhite x = t.on("colour a 1;colour b 1;colour d 1;colour e 1;land l 1 a 4 b 1 d 3 e 3;player p 0;goal 1;player q 0;cars 1;change;");
        x.take(0, 1);
        t.due("the likeliest", x.best(0), 0);
        x.take(1, 0);
        t.due("the first of like ones", x.best(0), 2);
    }

    /** No COLOUR is free: he waits. */
    private static void bestNoneFree(Checks t) {
        RedWhite x = t.on("colour a 1;colour b 3;land l 1 a 1 b 9;player p 0;player q 0;change;");
        x.take(0, 0);
        x.take(1, 1);
        t.due("none is free", x.best(0), NONE);
        RedWhite one = t.on("colour a 1;land l 1 a 1;player p 0;change;");
        one.take(0, 0);
        t.due("his own only", one.best(0), NONE);
    }

    /** 28: "NoSuchElementException: no such ones". */
    private static void alsoNoSuch(Checks t) {
        RedWhite x = t.on(TWO);
        x.take(0, 0);
        for (int far : FAR) {
            t.refused("also player " + far, () -> x.also(far, 1, 0));
            t.refused("also colour " + far, () -> x.also(0, far, 0));
        }
        t.refused("player -1", () -> x.also(-1, 1, 0));
        t.refused("player 2", () -> x.also(2, 1, 0));
        t.refused("grey", () -> x.also(0, NONE, 0));
        t.refused("colour 3", () -> x.also(0, 3, 0));
        t.due("one that is", x.also(0, 1, 1) > 0, true);
    }

    /** 28: "it is not free". */
    private static void alsoNotFree(Checks t) {
        RedWhite x = t.on(TWO);
        x.take(0, 0);
        x.take(1, 1);
        t.refused("his own", () -> x.also(0, 0, 0));
        t.refused("another's", () -> x.also(0, 1, 0));
        t.due("free", x.also(0, 2, 1) > 0, true);
        x.turn(1, 2);
        t.refused("another's now", () -> x.also(0, 2, 0));
        t.due("free now", x.also(0, 1, 1) > 0, true);
    }

    /** 28: "he has none yet". */
    private static void alsoHasNoneYet(Checks t) {
        RedWhite x = t.on(TWO);
        t.refused("he has none yet", () -> x.also(0, 0, 0));
        x.take(0, 0);
        t.refused("the other one has none yet", () -> x.also(1, 1, 0));
        t.due("he has one", x.also(0, 1, 1) > 0, true);
    }

    /** 28: by how much likelier: 0 of 1 by a COLOUR that does not come, when it is over; all, when it decides. */
    private static void alsoNought(Checks t) {
        RedWhite x = t.on("colour a 1;colour b 1;colour d 1;land l 1 a 4 b 8;player p 0;player q 0;goal 1;cars 1;");
        x.take(0, 0);
        t.fraction("d does not come", x.also(0, 2, 0), x.also(0, 2, 1), 0, 1);
        t.fraction("b and a are all", x.also(0, 1, 0), x.also(0, 1, 1), 2, 3);
        x.come(1);
        t.fraction("over", x.also(0, 1, 0), x.also(0, 1, 1), 0, 1);
        RedWhite all = t.on("colour a 1;colour b 1;land l 1 b 12;player p 0;player q 0;");
        all.take(0, 0);
        t.fraction("never and always", all.also(0, 1, 0), all.also(0, 1, 1), 1, 1);
    }
}
