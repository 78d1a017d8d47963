/** Promises 38 and 39: sentence, said. */
final class SentenceTest {
    private static final String ROAD =
        "colour a 1;colour b 2;colour d 1;land l 1 a 4 b 4;player p 0;player q 3;player r 2;goal 5;cars 4;change;";

    public static void main(String[] args) {
        Checks t = new Checks();
        faults(t);
        limits(t);
        truths(t);
        joins(t);
        t.finish();
    }

    private static void faults(Checks t) {
        RedWhite x = t.on(ROAD);
        t.due("no sentence", x.said(-1), -1);
        t.due("no sentence", x.said(0), -1);
        t.sentenceFault(x, "", 1, 0);
        t.sentenceFault(x, "  ", 1, 2);
        t.sentenceFault(x, "and", 1, 0);
        t.sentenceFault(x, "a", 1, 0);
        t.sentenceFault(x, "z", 1, 0);
        t.sentenceFault(x, "won;", 1, 3);
        t.sentenceFault(x, "won won", 1, 4);
        t.sentenceFault(x, "won and", 1, 7);
        t.sentenceFault(x, "won or or won", 1, 7);
        t.sentenceFault(x, "not", 1, 3);
        t.sentenceFault(x, "not and won", 1, 4);
        t.sentenceFault(x, "()", 1, 1);
        t.sentenceFault(x, "(won", 1, 4);
        t.sentenceFault(x, "(won;", 1, 4);
        t.sentenceFault(x, "won)", 1, 3);
        t.sentenceFault(x, "has", 1, 3);
        t.sentenceFault(x, "has grey", 1, 4);
        t.sentenceFault(x, "has 1", 1, 4);
        t.sentenceFault(x, "has z", 3, 4);
        t.sentenceFault(x, "has p", 3, 4);
        t.sentenceFault(x, "has l", 3, 4);
        t.sentenceFault(x, "score 1", 1, 6);
        t.sentenceFault(x, "score (", 1, 6);
        t.sentenceFault(x, "score =", 1, 7);
        t.sentenceFault(x, "score = a", 1, 8);
        t.sentenceFault(x, "score = 100", 1, 8);
        t.sentenceFault(x, "score < = 1", 1, 8);
        t.sentenceFault(x, "takes", 1, 0);
        t.sentenceFault(x, "1", 1, 0);
        t.sentenceFault(x, "WON", 1, 0);
        t.due("still no sentence", x.said(-1), -1);
        t.due("a sentence", t.sentence(x, "number=1"), 1);
        t.sentenceFault(x, "won and has z", 3, 12);
        t.due("it stays", x.said(0), 1);
        t.due("no fault", t.sentence(x, "number<1"), 1);
        t.due("fault 0", x.fault(), 0);
    }

    private static void limits(Checks t) {
        RedWhite x = t.on(ROAD);
        String twenty = Checks.repeat("won or ", 19) + "won";
        t.due("20 ones", t.sentence(x, twenty), 20);
        said(t, x, Checks.repeat("won or ", 19) + "leads", 2);
        said(t, x, Checks.repeat("leads and ", 19) + "leads", 2);
        said(t, x, Checks.repeat("leads and ", 19) + "won", 0);
        said(t, x, "won or(won or(won or(won or(won or(won or(won or leads))))))", 2);
        t.sentenceFault(x, twenty + " or won", 4, 140);
        t.sentenceFault(x, twenty + " or has z", 4, 140);
        t.sentenceFault(x, twenty + " or z", 1, 140);
        t.sentenceFault(x, twenty + " or", 1, 139);
        t.due("not and bracket count", t.sentence(x, "not(won and not leads)or(turned)"), 7);
        t.due("8 within", t.sentence(x, "not not not not not not not won"), 8);
        t.sentenceFault(x, "not not not not not not not not won", 4, 32);
        t.sentenceFault(x, "((((((((won))))))))", 4, 8);
        t.due("7 brackets", t.sentence(x, "(((((((won or won)))))))"), 9);
        t.due("brackets apart", t.sentence(x, "(((((((won)))))))or(((((((won)))))))"), 16);
        t.sentenceFault(x, "((((((((;", 1, 8);
        t.due("200 bytes", t.sentence(x, "won" + Checks.repeat("\n", 197)), 1);
        t.sentenceFault(x, "won" + Checks.repeat("\n", 198), 1, 200);
        t.sentenceFault(x, Checks.repeat(" ", 199) + "won", 1, 200);
        t.sentenceFault(x, Checks.repeat(" ", 199) + "wonderfully", 1, 199);
    }

    private static void truths(Checks t) {
        RedWhite x = t.on(ROAD);
        x.take(0, 1);
        x.take(1, 0);
        x.turn(1, 2);
        x.come(1);
        said(t, x, "leads", 2);
        said(t, x, "won", 0);
        said(t, x, "has b", 1);
        said(t, x, "has d", 2);
        said(t, x, "has a", 0);
        said(t, x, "turned", 2);
        said(t, x, "score = 2", 5);
        said(t, x, "score < 2", 0);
        said(t, x, "score > 2", 2);
        said(t, x, "start = 0", 1);
        said(t, x, "start > 00", 6);
        said(t, x, "needs = 3", 5);
        said(t, x, "needs < 3", 2);
        said(t, x, "number > 0", 6);
        said(t, x, "number = 2", 4);
        said(t, x, "number < 99", 7);
        x.come(1);
        said(t, x, "leads", 1);
        x.undo();
        t.due("a sentence", t.sentence(x, "won or needs=0"), 2);
        x.come(1);
        x.come(1);
        t.due("said as it is now", t.saidBits(x), 1);
        RedWhite y = t.on("player p 8;player q 8;goal 3;");
        said(t, y, "needs = 0", 3);
        said(t, y, "leads", 3);
        said(t, y, "won", 1);
        RedWhite none = t.on("");
        said(t, none, "leads", 0);
        t.due("of none, none is said", none.said(-1), 0);
        t.due("none such", none.said(0), -1);
        t.due("none such", none.said(-2), -1);
    }

    private static void joins(Checks t) {
        RedWhite x = t.on(ROAD);
        said(t, x, "not number=0", 6);
        said(t, x, "not not number=0", 1);
        said(t, x, "number=0 or number=1 and number=2", 1);
        said(t, x, "number=1 and number=2 or number=0", 1);
        said(t, x, "(number=0 or number=1) and number=1", 2);
        said(t, x, "number=1 and(number=0 or number=1)", 2);
        said(t, x, "not number=0 and number<2", 2);
        said(t, x, "not(number=0 and number<2)", 6);
        said(t, x, "not number=0 or number=0", 7);
        said(t, x, "number=0 or number=1 or number=2", 7);
        said(t, x, "number=0 and number=0 and number=0 or number=2 and number=2", 5);
        said(t, x, "number>0 and not(number=1 or number=0)or number=0 and number<1", 5);
    }

    private static void said(Checks t, RedWhite x, String text, int bits) {
        t.due("ones of " + text, t.sentence(x, text) > 0, true);
        t.due(text, t.saidBits(x), bits);
    }
}
