/** Promises 1 to 3 and 42: a new object, feed, end, count. */
final class TapeTest {
    public static void main(String[] args) {
        Checks t = new Checks();
        newObject(t);
        feeding(t);
        cutting(t);
        counting(t);
        t.finish();
    }

    private static void newObject(Checks t) {
        RedWhite x = new RedWhite();
        for (int what = 0; what < 3; what++) {
            t.due("count of a new one " + what, x.count(what), 0);
        }
        t.due("goal", x.count(3), 9);
        t.due("cars", x.count(4), 12);
        t.due("change", x.count(5), 0);
        t.due("bytes", x.count(6), 0);
        t.due("fault", x.fault(), 0);
        t.due("said", x.said(RedWhite.NONE), RedWhite.NONE);
        t.due("come grey", x.come(RedWhite.NONE), 0);
        t.due("NONE", RedWhite.NONE, -1);
    }

    private static void feeding(Checks t) {
        RedWhite x = new RedWhite();
        for (int i = 1; i <= 47; i++) {
            t.due("feed " + i, x.feed(0, 0, 0, 0, 0), 20 * i);
        }
        t.due("feed too much", x.feed(1, 1, 1, 1, 1), -1);
        t.due("bytes stay", x.count(6), 940);
        t.due("end 921", x.end(921), true);
        t.due("feed would have 941", x.feed(1, 1, 1, 1, 1), -1);
        t.due("bytes stay 921", x.count(6), 921);
        t.due("end 920", x.end(920), true);
        t.due("feed to 940", x.feed(1, 1, 1, 1, 1), 940);
        // The highest byte of each number comes first; bytes above 127 are bytes too.
        RedWhite y = new RedWhite();
        Checks.tell(y, "player a 0;player b 0;player c 0;colour r 1;");
        y.road();
        y.feed(0x00FF0102, 0, 0, 0, 0);
        y.end(3);
        t.due("scores of bytes 0, 255, 1", y.scores(), 0);
    }

    private static void cutting(Checks t) {
        RedWhite x = new RedWhite();
        t.due("end 0 of none", x.end(0), true);
        t.due("end 1 of none", x.end(1), false);
        x.feed(0x676F616C, 0x20333B00, 0, 0, 0);
        t.due("end -1", x.end(-1), false);
        t.due("end least int", x.end(Integer.MIN_VALUE), false);
        t.due("end 21", x.end(21), false);
        t.due("bytes", x.count(6), 20);
        t.due("end 20", x.end(20), true);
        t.due("end 7", x.end(7), true);
        t.due("road", x.road(), 1);
        t.due("goal", x.count(3), 3);
        t.due("bytes behind road", x.count(6), 0);
    }

    private static void counting(Checks t) {
        RedWhite x = t.on("colour a 1;colour b 2;land l 1 a 1;player p 0;player q 1;player r 2;goal 4;cars 5;change;");
        int[] want = {2, 1, 3, 4, 5, 1, 0};
        for (int what = 0; what < want.length; what++) {
            t.due("count " + what, x.count(what), want[what]);
        }
        t.due("count -1", x.count(-1), -1);
        t.due("count 7", x.count(7), -1);
    }
}
