import java.nio.charset.StandardCharsets;
import java.util.NoSuchElementException;

/** What all tests use: texts onto the tape, answers compared, the exit code. */
final class Checks {
    interface Call {
        long answer();
    }

    private int made;
    private int wrong;

    void due(String call, long got, long want) {
        made++;
        if (got != want) {
            wrong++;
            System.out.println(call + " answered " + got + ", due is " + want);
        }
    }

    void due(String call, boolean got, boolean want) {
        due(call, got ? 1 : 0, want ? 1 : 0);
    }

    void refused(String call, Call made) {
        boolean thrown = false;
        long got = 0;
        try {
            got = made.answer();
        } catch (NoSuchElementException e) {
            thrown = true;
        }
        due(call + " (answered " + got + ") is refused", thrown, true);
    }

    /** Both parts of a fraction. */
    void fraction(String call, long above, long below, long wantAbove, long wantBelow) {
        due(call + " above", above, wantAbove);
        due(call + " below", below, wantBelow);
    }

    /** A road that is read must have no fault. */
    RedWhite on(String road) {
        RedWhite x = new RedWhite();
        tell(x, road);
        int lines = x.road();
        due("lines of " + road, lines >= 0, true);
        return x;
    }

    void roadFault(RedWhite x, String text, int kind, int place) {
        tell(x, text);
        due("road " + text, x.road(), -1 - place);
        due("fault of road " + text, x.fault(), kind);
        due("tape behind road " + text, x.count(6), 0);
    }

    void logFault(RedWhite x, String text, int kind, int place) {
        tell(x, text);
        due("log " + text, x.log(1), -2 - place);
        due("fault of log " + text, x.fault(), kind);
        due("tape behind log " + text, x.count(6), 0);
    }

    void sentenceFault(RedWhite x, String text, int kind, int place) {
        tell(x, text);
        due("sentence " + text, x.sentence(), -1 - place);
        due("fault of sentence " + text, x.fault(), kind);
        due("tape behind sentence " + text, x.count(6), 0);
    }

    /** The fault of a road's text by a new object, which has had few calls then. */
    void roadFault(String text, int kind, int place) {
        roadFault(new RedWhite(), text, kind, place);
    }

    void logFault(String road, String text, int kind, int place) {
        logFault(on(road), text, kind, place);
    }

    void sentenceFault(String road, String text, int kind, int place) {
        sentenceFault(on(road), text, kind, place);
    }

    int log(RedWhite x, String text, int lives) {
        tell(x, text);
        return x.log(lives);
    }

    int sentence(RedWhite x, String text) {
        tell(x, text);
        return x.sentence();
    }

    /** How many it may be said of, and who, as bits. */
    int saidBits(RedWhite x) {
        int bits = 0;
        int many = x.said(RedWhite.NONE);
        for (int k = 0; k < many; k++) {
            bits |= 1 << x.said(k);
        }
        due("said behind the last", x.said(Math.max(many, 0)), RedWhite.NONE);
        return bits;
    }

    static void tell(RedWhite x, String text) {
        tell(x, text.getBytes(StandardCharsets.ISO_8859_1));
    }

    static void tell(RedWhite x, byte... bytes) {
        int from = x.count(6);
        for (int i = 0; i < bytes.length; i += 20) {
            x.feed(four(bytes, i), four(bytes, i + 4), four(bytes, i + 8), four(bytes, i + 12), four(bytes, i + 16));
        }
        x.end(from + bytes.length);
    }

    private static int four(byte[] bytes, int at) {
        int number = 0;
        for (int i = at; i < at + 4; i++) {
            number = number << 8 | (i < bytes.length ? bytes[i] & 255 : 0);
        }
        return number;
    }

    static String repeat(String text, int times) {
        return text.repeat(times);
    }

    void finish() {
        System.out.println(made + " answers, " + wrong + " wrong");
        System.exit(wrong == 0 ? 0 : 1);
    }
}
