/** Promises 36 and 37: log, logged. */
final class LogTest {
    private static final String ROAD =
        "colour a 1;colour b 2;colour d 1;land l 1 a 4 b 4;player p 0;player q 0;goal 5;cars 4;change;";

    public static void main(String[] args) {
        Checks t = new Checks();
        faults(t);
        lengths(t);
        lives(t);
        reasons(t);
        t.finish();
    }

    private static void faults(Checks t) {
        RedWhite x = t.on(ROAD);
        t.due("logged ahead of any", x.logged(0), -1);
        t.logFault(x, ";", 1, 0);
        t.logFault(x, "p takes a", 1, 9);
        t.logFault(x, "p", 1, 1);
        t.logFault(x, "p a;", 1, 2);
        t.logFault(x, "p comes a;", 1, 2);
        t.logFault(x, "p takes grey;", 1, 8);
        t.logFault(x, "p turns grey;", 1, 8);
        t.logFault(x, "p takes 1;", 1, 8);
        t.logFault(x, "p takes a a;", 1, 10);
        t.logFault(x, "comes;", 1, 5);
        t.logFault(x, "comes takes;", 1, 6);
        t.logFault(x, "takes a;", 1, 0);
        t.logFault(x, "grey a;", 1, 0);
        t.logFault(x, "12;", 1, 0);
        t.logFault(x, "P takes a;", 1, 0);
        t.logFault(x, "z takes a;", 3, 0);
        t.logFault(x, "a takes a;", 3, 0);
        t.logFault(x, "l takes a;", 3, 0);
        t.logFault(x, "p takes z;", 3, 8);
        t.logFault(x, "p takes q;", 3, 8);
        t.logFault(x, "p turns l;", 3, 8);
        t.logFault(x, "comes l;", 3, 6);
        t.logFault(x, "comes z;", 3, 6);
        t.logFault(x, "p takes a;comes grey;comes z;", 3, 27);
        t.due("nothing is lived by a fault", x.player(0, 2), -1);
        t.due("nothing is logged by a fault", x.logged(1), -1);
        t.due("nothing can be undone", x.undo(), -1);
    }

    private static void lengths(Checks t) {
        RedWhite x = t.on(ROAD);
        String forty = Checks.repeat("comes a;", 40);
        t.due("40 lines", t.log(x, forty, 0), 4);
        t.due("no fault", x.fault(), 0);
        t.logFault(x, forty + "comes a;", 4, 320);
        t.logFault(x, forty + "p", 4, 320);
        t.logFault(x, forty + "z", 3, 320);
        t.logFault(x, forty + "takes", 1, 320);
        t.due("40 lines and blanks", t.log(x, forty + Checks.repeat(" ", 80), 0), 4);
        t.logFault(x, forty + Checks.repeat(" ", 81), 1, 400);
        t.logFault(x, Checks.repeat(" ", 395) + "p takes a;", 1, 400);
        t.logFault(x, Checks.repeat(" ", 395) + "p takesa;", 1, 397);
        t.due("an empty log", t.log(x, "", 0), -1);
        t.due("blanks", t.log(x, " \n", 0), -1);
        t.due("no lines", x.logged(1), 0);
    }

    private static void lives(Checks t) {
        RedWhite x = t.on(ROAD);
        Checks.tell(x, "p takes a;");
        t.due("lives 2", x.log(2), -1000);
        t.due("lives -1", x.log(-1), -1000);
        t.due("the tape stays", x.count(6), 10);
        t.due("nothing logged", x.logged(0), -1);
        t.due("judged", x.log(0), -1);
        t.due("the tape is empty", x.count(6), 0);
        t.due("all stays", x.player(0, 2), -1);
        t.due("lines", x.logged(1), 1);
        t.due("why", x.logged(0), 0);
        t.due("lived", t.log(x, "p takes a;q takes b;comes a;comes grey;comes b;comes b;", 1), -1);
        t.due("why", x.logged(0), 0);
        t.due("lines", x.logged(1), 6);
        t.due("cars", x.logged(2), 4);
        t.due("who won", x.logged(3), 1);
        t.due("score", x.player(1, 0), 4);
        t.due("logged -1", x.logged(-1), -1);
        t.due("logged 4", x.logged(4), -1);
        t.logFault(x, "z", 3, 0);
        Checks.tell(x, "z");
        t.due("-1000 leaves the fault", x.log(7), -1000);
        t.due("fault", x.fault(), 3);
        t.due("lines of the latest without a fault", x.logged(1), 6);
        t.due("the tape", x.end(0), true);
    }

    private static void reasons(Checks t) {
        RedWhite x = t.on(ROAD);
        wrong(t, x, "p takes a;p takes b;comes a;", 1, 2, 0, -1);
        wrong(t, x, "p takes a;q takes a;", 1, 3, 0, -1);
        wrong(t, x, "p turns a;", 0, 13, 0, -1);
        wrong(t, x, "p takes a;p turns a;", 1, 14, 0, -1);
        wrong(t, x, "p takes a;p turns b;p turns a;", 2, 13, 0, -1);
        wrong(t, x, "comes d;", 0, 22, 0, -1);
        wrong(t, x, "comes a;comes a;comes a;comes grey;comes a;", 4, 21, 4, -1);
        wrong(t, x, "p takes b;comes b;comes b;comes b;p turns a;", 4, 11, 3, 0);
        wrong(t, x, "p takes b;comes b;comes b;comes b;q takes a;", 4, 1, 3, 0);
        RedWhite y = t.on("colour a 1;player p 0;");
        wrong(t, y, "p takes a;p turns a;", 1, 12, 0, -1);
        x.come(0);
        wrong(t, x, "comes b;p turns a;", 1, 13, 2, -1);
        t.due("lived up to the wrong one", t.log(x, "p takes a;comes a;comes d;comes a;", 1), 2);
        t.due("cars", x.now(0), 2);
        t.due("score", x.player(0, 0), 1);
        t.due("undo", x.undo(), 1);
        t.due("cars", x.now(0), 1);
    }

    private static void wrong(Checks t, RedWhite x, String text, int line, int why, int cars, int won) {
        t.due(text, t.log(x, text, 0), line);
        t.due("why " + text, x.logged(0), why);
        t.due("lines " + text, x.logged(1), line);
        t.due("cars " + text, x.logged(2), cars);
        t.due("who won " + text, x.logged(3), won);
    }
}
