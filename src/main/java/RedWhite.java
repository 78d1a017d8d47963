import java.util.Arrays;
import java.util.NoSuchElementException;

/** Cars that come by colours in a land that nobody knows, and players who count them. */
public final class RedWhite {
    public static final int NONE = -1;

    private static final int MOST_COLOURS = 4;
    private static final int MOST_LANDS = 3;
    private static final int MOST_PLAYERS = 3;
    private static final int MOST_CARS = 12;
    private static final int MOST_GOAL = 9;
    private static final int MOST_START = 8;
    private static final int MOST_WORTH = 3;
    private static final int DOZEN = 12;
    /** Grey stands behind the colours in a land's row of cars. */
    private static final int GREY = MOST_COLOURS;
    private static final int KINDS = MOST_COLOURS + 1;
    /** Scores below the goal are 0 to 8, so a table of three scores has 9 to each side. */
    private static final int SIDE = 9;
    private static final int TABLE = SIDE * SIDE * SIDE;
    /** How far apart two neighbouring scores of a player stand in such a table. */
    private static final int[] STEPS = {81, 9, 1};
    /** The powers of 12: every chance is so many ways of these, and all fit a long. */
    private static final long[] TWELVES = {
        1L, 12L, 144L, 1728L, 20736L, 248832L, 2985984L, 35831808L, 429981696L,
        5159780352L, 61917364224L, 743008370688L, 8916100448256L};

    private static final int STRANGE_TOKEN = 1;
    private static final int WRONG_NUMBER = 2;
    private static final int WRONG_NAME = 3;
    private static final int TOO_MANY = 4;

    /** The words that no name may be; each is known by its number here. */
    private static final String KEYS =
        "colour ends land player goal cars change takes turns comes grey or and not leads won has turned score start needs number ";
    private static final int NO_KEY = -1;
    private static final int KEY_COLOUR = 0;
    private static final int KEY_ENDS = 1;
    private static final int KEY_LAND = 2;
    private static final int KEY_PLAYER = 3;
    private static final int KEY_GOAL = 4;
    private static final int KEY_CARS = 5;
    private static final int KEY_CHANGE = 6;
    private static final int KEY_TAKES = 7;
    private static final int KEY_TURNS = 8;
    private static final int KEY_COMES = 9;
    private static final int KEY_GREY = 10;
    private static final int KEY_OR = 11;
    private static final int KEY_AND = 12;
    private static final int KEY_NOT = 13;
    private static final int KEY_LEADS = 14;
    private static final int KEY_WON = 15;
    private static final int KEY_HAS = 16;
    private static final int KEY_TURNED = 17;
    private static final int KEY_SCORE = 18;
    private static final int KEY_START = 19;
    private static final int KEY_NEEDS = 20;
    private static final int KEY_NUMBER = 21;

    private static final int ROAD_BYTES = 900;
    private static final int LOG_BYTES = 400;
    private static final int SENTENCE_BYTES = 200;
    private static final int MOST_WINS = 60;
    private static final int IMAGES = 2;
    private static final int NO_TRIP = -2;
    private static final int NO_SUCH_LIVES = -1000;

    private final Tape tape = new Tape();
    private final RoadText roadText = new RoadText(tape);
    private final LogText logText = new LogText(tape);
    private final SentenceText sentenceText = new SentenceText(tape);
    private final Trip trip = new Trip(new Road());
    private final Trip spare = new Trip(trip.road);
    private final Past past = new Past(trip.road);
    private final Odds standing = new Odds(trip.road);
    private final Odds trial = new Odds(trip.road);
    private final Chooser chooser = new Chooser(trial);
    private final Waiting waiting = new Waiting(trip.road);
    private final Trip[] keptTrips = {new Trip(trip.road), new Trip(trip.road)};
    private final Sentence[] keptSentences = new Sentence[IMAGES];
    private final boolean[] kept = new boolean[IMAGES];
    private final int[] taken = {NONE, NONE, NONE};
    private final int[] claimed = new int[MOST_PLAYERS];
    private final int[] judged = {NONE, NONE, NONE, NONE};
    /** The sentence now; null: none. */
    private Sentence spoken;

    public RedWhite() {
    }

    public int feed(int a, int b, int c, int d, int e) {
        if (!tape.hasRoom(20)) {
            return NONE;
        }
        tape.append(a);
        tape.append(b);
        tape.append(c);
        tape.append(d);
        tape.append(e);
        return tape.length;
    }

    public boolean end(int n) {
        if (n < 0 || n > tape.length) {
            return false;
        }
        tape.length = n;
        return true;
    }

    public int road() {
        Road told = roadText.read();
        tape.length = 0;
        if (told == null) {
            return -1 - tape.faultPlace;
        }
        trip.begin(told);
        past.forget();
        spoken = null;
        return told.lines;
    }

    public int fault() {
        return tape.fault;
    }

    public int colour(int c, int what) {
        if (!trip.road.hasColour(c)) {
            return NONE;
        }
        switch (what) {
            case 0:
                return trip.road.worth[c];
            case 1:
                return trip.road.ends[c] ? 1 : 0;
            case 2:
                return trip.holderOf(c);
            case 3:
                return trip.timesCame(c);
            default:
                return NONE;
        }
    }

    public int land(int l, int c) {
        if (!trip.road.hasLand(l) || !trip.road.hasKind(c)) {
            return NONE;
        }
        return trip.road.cars[l][kindOf(c)];
    }

    public int player(int p, int what) throws NoSuchElementException {
        checkPlayer(p);
        switch (what) {
            case 0:
                return trip.score[p];
            case 1:
                return trip.road.starts[p];
            case 2:
                return trip.own[p];
            case 3:
                return trip.turned[p] ? 1 : 0;
            default:
                throw new NoSuchElementException();
        }
    }

    public int now(int what) {
        switch (what) {
            case 0:
                return trip.came;
            case 1:
                return trip.isOver() ? 1 : 0;
            case 2:
                return trip.winner();
            case 3:
                return trip.leader();
            case 4:
                return trip.timesCame(NONE);
            default:
                return NONE;
        }
    }

    public int take(int p, int c) {
        if (!trip.road.hasPlayer(p) || !trip.road.hasColour(c)) {
            return NONE;
        }
        int why = trip.whyNotTake(p, c);
        if (why == 0) {
            past.keep(trip);
            trip.doTake(p, c);
        }
        return why;
    }

    public int turn(int p, int c) {
        if (!trip.road.hasPlayer(p) || !trip.road.hasColour(c)) {
            return NONE;
        }
        int why = trip.whyNotTurn(p, c);
        if (why == 0) {
            past.keep(trip);
            trip.doTurn(p, c);
        }
        return why;
    }

    public int come(int c) {
        if (!trip.road.hasKind(c)) {
            return NONE;
        }
        int why = trip.whyNotCome(c);
        if (why == 0) {
            past.keep(trip);
            trip.doCome(c);
        }
        return why;
    }

    public int undo() {
        return past.recall(trip);
    }

    public long likely(int p, int what) throws NoSuchElementException {
        checkPlayer(p);
        checkPart(what);
        standing.reckonFor(trip);
        return part(standing.win[p], standing.all, what);
    }

    public long nobody(int what) throws NoSuchElementException {
        checkPart(what);
        standing.reckonFor(trip);
        return part(standing.winless, standing.all, what);
    }

    public long where(int l, int what) throws NoSuchElementException {
        if (!trip.road.hasLand(l)) {
            throw new NoSuchElementException();
        }
        checkPart(what);
        return part(trip.weightOf(l), trip.allWeights(), what);
    }

    public long next(int c, int what) throws NoSuchElementException {
        if (!trip.road.hasKind(c)) {
            throw new NoSuchElementException();
        }
        checkPart(what);
        return part(trip.weightsWith(c), DOZEN * trip.allWeights(), what);
    }

    public long left(int what) throws NoSuchElementException {
        checkPart(what);
        standing.reckonFor(trip);
        return part(standing.carsYet(), standing.all, what);
    }

    public long over(int n, int what) throws NoSuchElementException {
        if (n < 0 || n > MOST_CARS) {
            throw new NoSuchElementException();
        }
        checkPart(what);
        standing.reckonFor(trip);
        return part(standing.doneBehind(n), standing.all, what);
    }

    public int favourite() {
        standing.reckonFor(trip);
        int likeliest = NONE;
        long most = -1;
        for (int p = 0; p < trip.road.players; p++) {
            if (standing.win[p] > most) {
                most = standing.win[p];
                likeliest = p;
            }
        }
        return likeliest;
    }

    public int chosen(int p) {
        if (!trip.road.hasPlayer(p)) {
            return NONE;
        }
        chooser.reckonFor(trip);
        return chooser.taken[0][p];
    }

    public long chance(int p, int what) throws NoSuchElementException {
        checkPlayer(p);
        checkPart(what);
        chooser.reckonFor(trip);
        return part(chooser.wins[0][p], chooser.all, what);
    }

    public int which(int p) {
        if (!trip.road.hasPlayer(p) || trip.isOver()) {
            return NONE;
        }
        int likeliest = NONE;
        long most = -1;
        for (int c = 0; c < trip.road.colours; c++) {
            if (trip.holderOf(c) == NONE) {
                trial.setTo(trip);
                trial.dropAll(p);
                trial.holder[c] = p;
                trial.reckon();
                if (trial.win[p] > most) {
                    most = trial.win[p];
                    likeliest = c;
                }
            }
        }
        return likeliest;
    }

    public int fair(int p) {
        if (!trip.road.hasPlayer(p) || trip.road.players != 2) {
            return NONE;
        }
        int fairest = NONE;
        long least = Long.MAX_VALUE;
        for (int start = 0; start <= MOST_START; start++) {
            trial.setToBeginning(trip);
            trial.score[p] = start;
            trial.reckon();
            if (unlikeness() < least) {
                least = unlikeness();
                fairest = start;
            }
        }
        return fairest;
    }

    public int goal() {
        if (trip.road.players != 2) {
            return NONE;
        }
        int fairest = NONE;
        long least = Long.MAX_VALUE;
        for (int aim = 1; aim <= MOST_GOAL; aim++) {
            trial.setToBeginning(trip);
            trial.aim = aim;
            trial.reckon();
            if (unlikeness() < least) {
                least = unlikeness();
                fairest = aim;
            }
        }
        return fairest;
    }

    public long right(int p, int what) throws NoSuchElementException {
        checkPlayer(p);
        checkPart(what);
        if (!trip.mayTurn(p)) {
            return likely(p, what);
        }
        waiting.reckonFor(trip, p);
        return part(waiting.value, waiting.all, what);
    }

    public int best(int p) {
        if (!trip.road.hasPlayer(p) || !trip.mayTurn(p)) {
            return NONE;
        }
        waiting.reckonFor(trip, p);
        return waiting.turnsTo;
    }

    public long also(int p, int c, int what) throws NoSuchElementException {
        checkPlayer(p);
        checkPart(what);
        if (!trip.road.hasColour(c) || trip.holderOf(c) != NONE || trip.own[p] == NONE) {
            throw new NoSuchElementException();
        }
        standing.reckonFor(trip);
        trial.setTo(trip);
        trial.holder[c] = p;
        trial.reckon();
        return part(trial.win[p] - standing.win[p], trial.all, what);
    }

    public int scores() {
        int players = trip.road.players;
        boolean asTold = players > 0 && tape.length == players;
        for (int p = 0; p < MOST_PLAYERS; p++) {
            claimed[p] = tape.byteAt(p);
        }
        tape.length = 0;
        return asTold ? countWays() : NONE;
    }

    public int took(int p) {
        return trip.road.hasPlayer(p) ? taken[p] : NONE;
    }

    public int car(int k) {
        return k < 0 || k >= trip.came ? -2 : trip.cars[k];
    }

    public int row() {
        return trip.longestRow();
    }

    public long luck(int what) throws NoSuchElementException {
        checkPart(what);
        return what == 0 ? trip.allWeights() : TWELVES[trip.came] * trip.road.allChances();
    }

    public int drawn(int seed) {
        if (trip.isOver() || trip.road.lands == 0) {
            return NO_TRIP;
        }
        past.keep(trip);
        trip.driveOn(seed);
        return trip.winner();
    }

    public int wins(int p, int n, int seed) {
        boolean such = trip.road.hasPlayer(p) && n >= 1 && n <= MOST_WINS;
        if (!such || trip.isOver() || trip.road.lands == 0) {
            return NONE;
        }
        int won = 0;
        for (int i = 0; i < n; i++) {
            spare.copyFrom(trip);
            spare.driveOn(seed + i);
            if (spare.winner() == p) {
                won++;
            }
        }
        return won;
    }

    public int log(int lives) {
        if (lives != 0 && lives != 1) {
            return NO_SUCH_LIVES;
        }
        boolean read = logText.read(trip.road);
        tape.length = 0;
        if (!read) {
            return -2 - tape.faultPlace;
        }
        if (lives == 0) {
            spare.copyFrom(trip);
            return liveLog(spare);
        }
        past.keep(trip);
        return liveLog(trip);
    }

    public int logged(int what) {
        return what < 0 || what >= judged.length ? NONE : judged[what];
    }

    public int sentence() {
        Sentence told = sentenceText.read(trip.road);
        tape.length = 0;
        if (told == null) {
            return -1 - tape.faultPlace;
        }
        spoken = told;
        return told.ones;
    }

    public int said(int k) {
        Sentence now = spoken;
        if (now == null) {
            return NONE;
        }
        int found = 0;
        for (int p = 0; p < trip.road.players; p++) {
            if (now.holdsFor(trip, p)) {
                if (found == k) {
                    return p;
                }
                found++;
            }
        }
        return k == NONE ? found : NONE;
    }

    public boolean image(int k) {
        if (k < 0 || k >= IMAGES) {
            return false;
        }
        keptTrips[k].copyFrom(trip);
        keptSentences[k] = spoken;
        kept[k] = true;
        return true;
    }

    public boolean restore(int k) {
        if (k < 0 || k >= IMAGES || !kept[k]) {
            return false;
        }
        trip.copyFrom(keptTrips[k]);
        spoken = keptSentences[k];
        past.forget();
        return true;
    }

    public int count(int what) {
        switch (what) {
            case 0:
                return trip.road.colours;
            case 1:
                return trip.road.lands;
            case 2:
                return trip.road.players;
            case 3:
                return trip.road.aim;
            case 4:
                return trip.road.mostCars;
            case 5:
                return trip.road.changing ? 1 : 0;
            case 6:
                return tape.length;
            default:
                return NONE;
        }
    }

    private void checkPlayer(int p) {
        if (!trip.road.hasPlayer(p)) {
            throw new NoSuchElementException();
        }
    }

    private static void checkPart(int what) {
        if (what != 0 && what != 1) {
            throw new NoSuchElementException();
        }
    }

    /** The part above (0) or below (1) of a fraction in least terms. */
    private static long part(long above, long below, int what) {
        long divisor = commonDivisor(Math.abs(above), below);
        if (divisor <= 0) {
            return what;
        }
        return (what == 0 ? above : below) / divisor;
    }

    private static long commonDivisor(long a, long b) {
        long greater = a;
        long less = b;
        // Euclid's way at least halves the greater in two steps, so a long is done within 128.
        for (int i = 0; i < 128 && less != 0; i++) {
            long rest = greater % less;
            greater = less;
            less = rest;
        }
        return greater;
    }

    private static int kindOf(int c) {
        return c == NONE ? GREY : c;
    }

    /** Who alone has most of these scores; NONE: nobody, or two have most. */
    private static int soleLeader(int[] score, int players) {
        int leader = NONE;
        int most = -1;
        for (int p = 0; p < players && p < score.length; p++) {
            if (score[p] > most) {
                most = score[p];
                leader = p;
            } else if (score[p] == most) {
                leader = NONE;
            }
        }
        return leader;
    }

    /** How far the first two players of the trial are from being as likely to win. */
    private long unlikeness() {
        return Math.abs(trial.win[0] - trial.win[1]);
    }

    private int countWays() {
        int ways = 0;
        // Two bits a player, the first highest: so the ways come player by player, least colour first.
        for (int way = 0; way < MOST_COLOURS * MOST_COLOURS * MOST_COLOURS; way++) {
            if (explains(way)) {
                if (ways == 0) {
                    keepWay(way);
                }
                ways++;
            }
        }
        return ways;
    }

    private static int colourIn(int way, int p) {
        return way >> 2 * (MOST_PLAYERS - 1 - p) & 3;
    }

    private boolean explains(int way) {
        int used = 0;
        for (int p = 0; p < MOST_PLAYERS; p++) {
            int c = colourIn(way, p);
            if (p >= trip.road.players) {
                // Players who are not there may stand for one way only.
                if (c != 0) {
                    return false;
                }
            } else if (!trip.road.hasColour(c) || (used >> c & 1) == 1 || claimed[p] != scoreBy(p, c)) {
                return false;
            } else {
                used |= 1 << c;
            }
        }
        return true;
    }

    private int scoreBy(int p, int c) {
        return trip.road.starts[p] + trip.road.worth[c] * trip.timesCame(c);
    }

    private void keepWay(int way) {
        for (int p = 0; p < MOST_PLAYERS; p++) {
            taken[p] = p < trip.road.players ? colourIn(way, p) : NONE;
        }
    }

    /** Lives the log that was read on a trip, up to a line that is wrong: that line. */
    private int liveLog(Trip on) {
        int why = 0;
        int lived = 0;
        for (int i = 0; i < logText.lines && why == 0; i++) {
            why = logText.live(i, on);
            if (why == 0) {
                lived++;
            }
        }
        judged[0] = why;
        judged[1] = lived;
        judged[2] = on.came;
        judged[3] = on.winner();
        return why == 0 ? NONE : lived;
    }

    /** The tape, and how its tokens are read one by one. */
    private static final class Tape {
        private static final int MOST_BYTES = 940;
        private static final int MOST_LETTERS = 7;
        private static final int MOST_DIGITS = 2;
        private static final int END = 0;
        private static final int WORD = 1;
        private static final int NUMBER = 2;
        private static final int MARK = 3;
        private static final int STRANGE = 4;

        private final byte[] bytes = new byte[MOST_BYTES];
        private int length;
        /** How many bytes the text may have that is read. */
        private int most;
        /** Where the next token is looked for. */
        private int at;
        /** The token's sort, its place, its number or sign, its key among KEYS, its letters as a number. */
        private int kind;
        private int place;
        private int value;
        private int key;
        private long name;
        private int fault;
        private int faultPlace;

        boolean hasRoom(int more) {
            return length + more <= MOST_BYTES;
        }

        void append(int four) {
            for (int shift = 24; shift >= 0 && length < MOST_BYTES; shift -= 8) {
                bytes[length] = (byte) (four >> shift);
                length++;
            }
        }

        /** A byte as 0 to 255; NONE where there is none. */
        int byteAt(int i) {
            return i >= 0 && i < length && i < MOST_BYTES ? bytes[i] & 255 : NONE;
        }

        void open(int mostBytes) {
            most = mostBytes;
            at = 0;
            fault = 0;
            faultPlace = 0;
        }

        void advance() {
            while (at < length && isBlank(byteAt(at))) {
                at++;
            }
            place = at;
            key = NO_KEY;
            name = 0;
            value = 0;
            if (length > most && at >= most) {
                place = most;
                kind = STRANGE;
            } else if (at >= length) {
                kind = END;
            } else if (goesOn(byteAt(at))) {
                readRun();
                key = kind == WORD ? keyOf(name) : NO_KEY;
            } else {
                value = byteAt(at);
                kind = isMarkSign(value) ? MARK : STRANGE;
                at++;
            }
        }

        private void readRun() {
            int letters = 0;
            int digits = 0;
            while (at < length && goesOn(byteAt(at))) {
                int sign = byteAt(at);
                at++;
                if (sign >= 'a') {
                    letters++;
                    name = name * 32 + (sign - 'a' + 1);
                } else {
                    digits++;
                    value = value * 10 + (sign - '0');
                }
            }
            kind = STRANGE;
            if (digits == 0 && letters <= MOST_LETTERS) {
                kind = WORD;
            } else if (letters == 0 && digits <= MOST_DIGITS) {
                kind = NUMBER;
            }
        }

        private static int keyOf(long word) {
            int key = 0;
            long told = 0;
            for (int i = 0; i < KEYS.length(); i++) {
                char sign = KEYS.charAt(i);
                if (sign != ' ') {
                    told = told * 32 + (sign - 'a' + 1);
                } else if (told == word) {
                    return key;
                } else {
                    key++;
                    told = 0;
                }
            }
            return NO_KEY;
        }

        private static boolean isBlank(int sign) {
            return sign == ' ' || sign == '\n';
        }

        private static boolean goesOn(int sign) {
            return sign >= 'a' && sign <= 'z' || sign >= '0' && sign <= '9';
        }

        private static boolean isMarkSign(int sign) {
            return sign == ';' || sign >= '<' && sign <= '>' || sign == '(' || sign == ')';
        }

        boolean isMark(char mark) {
            return kind == MARK && value == mark;
        }

        boolean isComparing() {
            return kind == MARK && value >= '<' && value <= '>';
        }

        boolean isName() {
            return kind == WORD && key == NO_KEY;
        }

        boolean isNumber() {
            return kind == NUMBER;
        }

        boolean isEnd() {
            return kind == END;
        }

        /** Notes a fault at the token: false, as every reading that fails. */
        boolean refuse(int sort) {
            fault = sort;
            faultPlace = place;
            return false;
        }
    }

    /** What a road's text tells. It does not change once it has been read. */
    private static final class Road {
        private final long[] colourNames = new long[MOST_COLOURS];
        /** Grey has its place among these too: it is worth nothing and never ends it. */
        private final int[] worth = new int[KINDS];
        private final boolean[] ends = new boolean[KINDS];
        private final long[] landNames = new long[MOST_LANDS];
        /** Without lands the first row stands for everywhere: all grey, with a chance of 1. */
        private final int[] chances = {1, 0, 0};
        private final int[][] cars = new int[MOST_LANDS][KINDS];
        private final long[] playerNames = new long[MOST_PLAYERS];
        private final int[] starts = new int[MOST_PLAYERS];
        private int colours;
        private int lands;
        private int players;
        private int aim = MOST_GOAL;
        private int mostCars = MOST_CARS;
        private boolean changing;
        private int lines;

        Road() {
            for (int l = 0; l < MOST_LANDS; l++) {
                cars[l][GREY] = DOZEN;
            }
        }

        boolean hasColour(int c) {
            return c >= 0 && c < colours;
        }

        boolean hasKind(int c) {
            return c == NONE || hasColour(c);
        }

        boolean hasLand(int l) {
            return l >= 0 && l < lands;
        }

        boolean hasPlayer(int p) {
            return p >= 0 && p < players;
        }

        int rows() {
            return lands == 0 ? 1 : lands;
        }

        int allChances() {
            int all = 0;
            for (int l = 0; l < rows(); l++) {
                all += chances[l];
            }
            return all;
        }

        int colourNamed(long name) {
            return indexIn(colourNames, colours, name);
        }

        int playerNamed(long name) {
            return indexIn(playerNames, players, name);
        }

        boolean tells(long name) {
            return colourNamed(name) != NONE || playerNamed(name) != NONE
                || indexIn(landNames, lands, name) != NONE;
        }

        private static int indexIn(long[] names, int size, long name) {
            for (int i = 0; i < size && i < names.length; i++) {
                if (names[i] == name) {
                    return i;
                }
            }
            return NONE;
        }

        /** Which kind a draw of 12 is in a land: by colours, then grey (NONE). */
        int kindDrawn(int l, int draw) {
            int before = 0;
            for (int c = 0; c < colours; c++) {
                before += cars[l][c];
                if (draw < before) {
                    return c;
                }
            }
            return NONE;
        }
    }

    /** Reads a road. Behind each part of a line the tape stands at the token that follows it. */
    private static final class RoadText {
        private final Tape tape;
        private Road road;
        private boolean aimTold;
        private boolean carsTold;

        RoadText(Tape tape) {
            this.tape = tape;
            this.road = new Road();
        }

        /** The road; null by a fault. */
        Road read() {
            road = new Road();
            aimTold = false;
            carsTold = false;
            tape.open(ROAD_BYTES);
            tape.advance();
            for (int i = 0; i < ROAD_BYTES && !tape.isEnd(); i++) {
                boolean good;
                switch (tape.key) {
                    case KEY_COLOUR:
                        good = readColour();
                        break;
                    case KEY_ENDS:
                        good = readEnds();
                        break;
                    case KEY_LAND:
                        good = readLand();
                        break;
                    case KEY_PLAYER:
                        good = readPlayer();
                        break;
                    case KEY_GOAL:
                        good = readGoal();
                        break;
                    case KEY_CARS:
                        good = readCars();
                        break;
                    case KEY_CHANGE:
                        good = readChange();
                        break;
                    default:
                        good = tape.refuse(STRANGE_TOKEN);
                        break;
                }
                if (!good || !readClosing()) {
                    return null;
                }
            }
            return road;
        }

        private boolean readClosing() {
            if (!tape.isMark(';')) {
                return tape.refuse(STRANGE_TOKEN);
            }
            road.lines++;
            tape.advance();
            return true;
        }

        private boolean readColour() {
            if (road.colours >= MOST_COLOURS) {
                return tape.refuse(TOO_MANY);
            }
            if (!readNewName()) {
                return false;
            }
            road.colourNames[road.colours] = tape.name;
            if (!readNumber(1, MOST_WORTH)) {
                return false;
            }
            road.worth[road.colours] = tape.value;
            road.colours++;
            tape.advance();
            return true;
        }

        private boolean readEnds() {
            tape.advance();
            if (!tape.isName()) {
                return tape.refuse(STRANGE_TOKEN);
            }
            int c = road.colourNamed(tape.name);
            if (c == NONE || road.ends[c]) {
                return tape.refuse(WRONG_NAME);
            }
            road.ends[c] = true;
            tape.advance();
            return true;
        }

        private boolean readLand() {
            if (road.lands >= MOST_LANDS) {
                return tape.refuse(TOO_MANY);
            }
            if (!readNewName()) {
                return false;
            }
            road.landNames[road.lands] = tape.name;
            if (!readNumber(1, 9)) {
                return false;
            }
            road.chances[road.lands] = tape.value;
            int[] cars = road.cars[road.lands];
            tape.advance();
            for (int i = 0; i < MOST_COLOURS && !tape.isMark(';'); i++) {
                if (!readShare(cars)) {
                    return false;
                }
            }
            return endLand();
        }

        /** One colour of a land: its cars are so many of those that were grey till then. */
        private boolean readShare(int[] cars) {
            if (!tape.isName()) {
                return tape.refuse(STRANGE_TOKEN);
            }
            int c = road.colourNamed(tape.name);
            if (c == NONE || cars[c] > 0) {
                return tape.refuse(WRONG_NAME);
            }
            if (!readNumber(1, cars[GREY])) {
                return false;
            }
            cars[c] = tape.value;
            cars[GREY] -= tape.value;
            tape.advance();
            return true;
        }

        private boolean endLand() {
            // All colours stand in the land, so that one more name is told again or is none.
            if (tape.isName()) {
                return tape.refuse(WRONG_NAME);
            }
            road.lands++;
            return true;
        }

        private boolean readPlayer() {
            if (road.players >= MOST_PLAYERS) {
                return tape.refuse(TOO_MANY);
            }
            if (!readNewName()) {
                return false;
            }
            road.playerNames[road.players] = tape.name;
            if (!readNumber(0, MOST_START)) {
                return false;
            }
            road.starts[road.players] = tape.value;
            road.players++;
            tape.advance();
            return true;
        }

        private boolean readGoal() {
            if (aimTold) {
                return tape.refuse(WRONG_NAME);
            }
            if (!readNumber(1, MOST_GOAL)) {
                return false;
            }
            aimTold = true;
            road.aim = tape.value;
            tape.advance();
            return true;
        }

        private boolean readCars() {
            if (carsTold) {
                return tape.refuse(WRONG_NAME);
            }
            if (!readNumber(1, MOST_CARS)) {
                return false;
            }
            carsTold = true;
            road.mostCars = tape.value;
            tape.advance();
            return true;
        }

        private boolean readChange() {
            if (road.changing) {
                return tape.refuse(WRONG_NAME);
            }
            road.changing = true;
            tape.advance();
            return true;
        }

        private boolean readNewName() {
            tape.advance();
            if (!tape.isName()) {
                return tape.refuse(STRANGE_TOKEN);
            }
            return !road.tells(tape.name) || tape.refuse(WRONG_NAME);
        }

        private boolean readNumber(int least, int most) {
            tape.advance();
            if (!tape.isNumber()) {
                return tape.refuse(STRANGE_TOKEN);
            }
            return tape.value >= least && tape.value <= most || tape.refuse(WRONG_NUMBER);
        }
    }

    /** Reads a log and lives its lines. */
    private static final class LogText {
        private static final int MOST_LINES = 40;

        private final Tape tape;
        private final int[] acts = new int[MOST_LINES];
        private final int[] whos = new int[MOST_LINES];
        private final int[] colours = new int[MOST_LINES];
        private int lines;

        LogText(Tape tape) {
            this.tape = tape;
        }

        boolean read(Road road) {
            lines = 0;
            tape.open(LOG_BYTES);
            tape.advance();
            for (int i = 0; i <= MOST_LINES && !tape.isEnd(); i++) {
                if (!readActor(road) || !readColour(road)) {
                    return false;
                }
                tape.advance();
                if (!tape.isMark(';')) {
                    return tape.refuse(STRANGE_TOKEN);
                }
                lines++;
                tape.advance();
            }
            return true;
        }

        /** Who acts and what he does; the tape stands at the word for it then. */
        private boolean readActor(Road road) {
            boolean comes = tape.key == KEY_COMES;
            if (!comes && !tape.isName()) {
                return tape.refuse(STRANGE_TOKEN);
            }
            int who = comes ? NONE : road.playerNamed(tape.name);
            if (!comes && who == NONE) {
                return tape.refuse(WRONG_NAME);
            }
            if (lines >= MOST_LINES) {
                return tape.refuse(TOO_MANY);
            }
            if (!comes) {
                tape.advance();
                if (tape.key != KEY_TAKES && tape.key != KEY_TURNS) {
                    return tape.refuse(STRANGE_TOKEN);
                }
            }
            whos[lines] = who;
            acts[lines] = tape.key;
            return true;
        }

        private boolean readColour(Road road) {
            if (lines >= MOST_LINES) {
                return false;
            }
            tape.advance();
            if (tape.key == KEY_GREY && acts[lines] == KEY_COMES) {
                colours[lines] = NONE;
                return true;
            }
            if (!tape.isName()) {
                return tape.refuse(STRANGE_TOKEN);
            }
            colours[lines] = road.colourNamed(tape.name);
            return colours[lines] != NONE || tape.refuse(WRONG_NAME);
        }

        /** Lives one line on a trip: 0, or why it is wrong (then nothing changes). */
        int live(int line, Trip trip) {
            if (line < 0 || line >= lines || line >= MOST_LINES) {
                return 0;
            }
            int why;
            switch (acts[line]) {
                case KEY_TAKES:
                    why = trip.whyNotTake(whos[line], colours[line]);
                    if (why == 0) {
                        trip.doTake(whos[line], colours[line]);
                    }
                    return why;
                case KEY_TURNS:
                    why = trip.whyNotTurn(whos[line], colours[line]);
                    if (why == 0) {
                        trip.doTurn(whos[line], colours[line]);
                    }
                    return why == 0 ? 0 : 10 + why;
                default:
                    why = trip.whyNotCome(colours[line]);
                    if (why == 0) {
                        trip.doCome(colours[line]);
                    }
                    return why == 0 ? 0 : 20 + why;
            }
        }
    }

    /** A condition, kept so that what joins or denies comes behind what it joins or denies. */
    private static final class Sentence {
        private static final int MOST_ONES = 20;

        /** Twenty ones have nineteen words between them. */
        private final int[] keys = new int[2 * MOST_ONES];
        private final int[] marks = new int[2 * MOST_ONES];
        private final int[] numbers = new int[2 * MOST_ONES];
        private int size;
        private int ones;

        void add(int key, int mark, int number) {
            if (size < keys.length) {
                keys[size] = key;
                marks[size] = mark;
                numbers[size] = number;
                size++;
            }
        }

        boolean holdsFor(Trip trip, int p) {
            // The answers that wait lie in bits, the latest lowest: there are twenty at most.
            int bits = 0;
            for (int i = 0; i < size && i < keys.length; i++) {
                int latest = bits & 1;
                if (keys[i] == KEY_NOT) {
                    bits ^= 1;
                } else if (keys[i] == KEY_AND) {
                    bits = bits >>> 1 & (latest | ~1);
                } else if (keys[i] == KEY_OR) {
                    bits = bits >>> 1 | latest;
                } else {
                    bits = bits << 1 | (oneHolds(i, trip, p) ? 1 : 0);
                }
            }
            return (bits & 1) == 1;
        }

        private boolean oneHolds(int i, Trip trip, int p) {
            switch (keys[i]) {
                case KEY_LEADS:
                    return trip.isAhead(p);
                case KEY_WON:
                    return trip.winner() == p;
                case KEY_HAS:
                    return trip.own[p] == numbers[i];
                case KEY_TURNED:
                    return trip.turned[p];
                case KEY_SCORE:
                    return compares(trip.score[p], i);
                case KEY_START:
                    return compares(trip.road.starts[p], i);
                case KEY_NEEDS:
                    return compares(Math.max(0, trip.road.aim - trip.score[p]), i);
                default:
                    return compares(p, i);
            }
        }

        private boolean compares(int value, int i) {
            switch (marks[i]) {
                case '<':
                    return value < numbers[i];
                case '=':
                    return value == numbers[i];
                default:
                    return value > numbers[i];
            }
        }
    }

    /** Reads a sentence. Each part begins with the tape at its first token and leaves it behind its last. */
    private static final class SentenceText {
        private static final int MOST_WITHIN = 8;

        private final Tape tape;
        private Sentence sentence = new Sentence();

        SentenceText(Tape tape) {
            this.tape = tape;
        }

        /** The sentence; null by a fault. */
        Sentence read(Road road) {
            sentence = new Sentence();
            tape.open(SENTENCE_BYTES);
            tape.advance();
            if (!readCond(road, 1)) {
                return null;
            }
            if (!tape.isEnd()) {
                tape.refuse(STRANGE_TOKEN);
                return null;
            }
            return sentence;
        }

        private boolean readCond(Road road, int depth) {
            boolean afterAnd = false;
            boolean orWaits = false;
            for (int i = 0; i <= Sentence.MOST_ONES; i++) {
                if (!readOne(road, depth)) {
                    return false;
                }
                if (afterAnd) {
                    sentence.add(KEY_AND, 0, 0);
                }
                afterAnd = tape.key == KEY_AND;
                if (!afterAnd) {
                    if (orWaits) {
                        sentence.add(KEY_OR, 0, 0);
                    }
                    if (tape.key != KEY_OR) {
                        return true;
                    }
                    orWaits = true;
                }
                tape.advance();
            }
            return false;
        }

        private boolean readOne(Road road, int depth) {
            boolean bracket = tape.isMark('(');
            if (!bracket && (tape.key < KEY_NOT || tape.key > KEY_NUMBER)) {
                return tape.refuse(STRANGE_TOKEN);
            }
            if (sentence.ones >= Sentence.MOST_ONES || depth > MOST_WITHIN) {
                return tape.refuse(TOO_MANY);
            }
            sentence.ones++;
            int key = bracket ? NO_KEY : tape.key;
            tape.advance();
            switch (key) {
                case NO_KEY:
                    return readCond(road, depth + 1) && readClosing();
                case KEY_NOT:
                    if (!readOne(road, depth + 1)) {
                        return false;
                    }
                    sentence.add(KEY_NOT, 0, 0);
                    return true;
                case KEY_LEADS:
                case KEY_WON:
                case KEY_TURNED:
                    sentence.add(key, 0, 0);
                    return true;
                case KEY_HAS:
                    return readHas(road);
                default:
                    return readComparison(key);
            }
        }

        private boolean readClosing() {
            if (!tape.isMark(')')) {
                return tape.refuse(STRANGE_TOKEN);
            }
            tape.advance();
            return true;
        }

        private boolean readHas(Road road) {
            if (!tape.isName()) {
                return tape.refuse(STRANGE_TOKEN);
            }
            int c = road.colourNamed(tape.name);
            if (c == NONE) {
                return tape.refuse(WRONG_NAME);
            }
            sentence.add(KEY_HAS, 0, c);
            tape.advance();
            return true;
        }

        private boolean readComparison(int key) {
            if (!tape.isComparing()) {
                return tape.refuse(STRANGE_TOKEN);
            }
            int mark = tape.value;
            tape.advance();
            if (!tape.isNumber()) {
                return tape.refuse(STRANGE_TOKEN);
            }
            sentence.add(key, mark, tape.value);
            tape.advance();
            return true;
        }
    }

    /** All that is so on a road: the cars that came, and what the players have. */
    private static final class Trip {
        private static final int FACTOR = 1103515245;
        private static final int ADDEND = 12345;

        private Road road;
        /** Becomes another one by every change, so that what was reckoned is known to be stale. */
        private int age;
        private int came;
        private final int[] cars = new int[MOST_CARS];
        private final int[] own = {NONE, NONE, NONE};
        private final boolean[] turned = new boolean[MOST_PLAYERS];
        private final int[] score = new int[MOST_PLAYERS];

        Trip(Road road) {
            this.road = road;
        }

        void begin(Road told) {
            road = told;
            age++;
            came = 0;
            for (int p = 0; p < MOST_PLAYERS; p++) {
                own[p] = NONE;
                turned[p] = false;
                score[p] = told.starts[p];
            }
        }

        void copyFrom(Trip other) {
            road = other.road;
            age++;
            came = other.came;
            System.arraycopy(other.cars, 0, cars, 0, MOST_CARS);
            for (int p = 0; p < MOST_PLAYERS; p++) {
                own[p] = other.own[p];
                turned[p] = other.turned[p];
                score[p] = other.score[p];
            }
        }

        int holderOf(int c) {
            for (int p = 0; p < road.players; p++) {
                if (own[p] == c) {
                    return p;
                }
            }
            return NONE;
        }

        int timesCame(int c) {
            int times = 0;
            for (int i = 0; i < came && i < MOST_CARS; i++) {
                if (cars[i] == c) {
                    times++;
                }
            }
            return times;
        }

        int longestRow() {
            int longest = 0;
            int here = 0;
            for (int i = 0; i < came && i < MOST_CARS; i++) {
                boolean goesOn = i > 0 && cars[i] == cars[i - 1];
                here = cars[i] == NONE ? 0 : goesOn ? here + 1 : 1;
                longest = Math.max(longest, here);
            }
            return longest;
        }

        /** A land's chance times, for each car that came, how many of 12 are such in it. */
        long weightOf(int l) {
            long weight = road.chances[l];
            for (int i = 0; i < came && i < MOST_CARS; i++) {
                weight *= road.cars[l][kindOf(cars[i])];
            }
            return weight;
        }

        long allWeights() {
            long all = 0;
            for (int l = 0; l < road.rows(); l++) {
                all += weightOf(l);
            }
            return all;
        }

        /** All weights, if such a car came next. */
        long weightsWith(int c) {
            long all = 0;
            for (int l = 0; l < road.rows(); l++) {
                all += weightOf(l) * road.cars[l][kindOf(c)];
            }
            return all;
        }

        /** The first who has the goal; NONE: nobody. */
        private int atGoal() {
            for (int p = 0; p < road.players; p++) {
                if (score[p] >= road.aim) {
                    return p;
                }
            }
            return NONE;
        }

        boolean isOver() {
            if (came >= road.mostCars || atGoal() != NONE) {
                return true;
            }
            return came > 0 && came <= MOST_CARS && road.ends[kindOf(cars[came - 1])];
        }

        int winner() {
            if (!isOver()) {
                return NONE;
            }
            int first = atGoal();
            return first != NONE ? first : soleLeader(score, road.players);
        }

        /** Who has most, of like ones the first; NONE without players. */
        int leader() {
            int leader = NONE;
            for (int p = 0; p < road.players; p++) {
                if (leader == NONE || score[p] > score[leader]) {
                    leader = p;
                }
            }
            return leader;
        }

        /** Whether nobody has more than a player. */
        boolean isAhead(int p) {
            for (int other = 0; other < road.players; other++) {
                if (score[other] > score[p]) {
                    return false;
                }
            }
            return true;
        }

        int whyNotTake(int p, int c) {
            if (isOver()) {
                return 1;
            }
            if (own[p] != NONE) {
                return 2;
            }
            return holderOf(c) != NONE ? 3 : 0;
        }

        void doTake(int p, int c) {
            age++;
            own[p] = c;
        }

        boolean mayTurn(int p) {
            return !isOver() && road.changing && own[p] != NONE && !turned[p];
        }

        int whyNotTurn(int p, int c) {
            if (isOver()) {
                return 1;
            }
            if (!road.changing) {
                return 2;
            }
            if (!mayTurn(p)) {
                return 3;
            }
            return holderOf(c) != NONE ? 4 : 0;
        }

        void doTurn(int p, int c) {
            age++;
            own[p] = c;
            turned[p] = true;
        }

        int whyNotCome(int c) {
            if (isOver()) {
                return 1;
            }
            return weightsWith(c) == 0 ? 2 : 0;
        }

        void doCome(int c) {
            if (came >= MOST_CARS) {
                return;
            }
            age++;
            cars[came] = c;
            came++;
            int p = c == NONE ? NONE : holderOf(c);
            if (p != NONE) {
                score[p] += road.worth[c];
            }
        }

        /** Draws the land and then cars till it is over. */
        void driveOn(int seed) {
            int draw = seed * FACTOR + ADDEND;
            int l = landDrawn(draw >>> 8);
            for (int i = 0; i < MOST_CARS && !isOver(); i++) {
                draw = draw * FACTOR + ADDEND;
                doCome(road.kindDrawn(l, (draw >>> 8) % DOZEN));
            }
        }

        /** The land of a draw among all chances of lands in which what came can be. */
        private int landDrawn(int high) {
            int all = 0;
            for (int l = 0; l < road.rows(); l++) {
                all += weightOf(l) > 0 ? road.chances[l] : 0;
            }
            if (all <= 0) {
                return 0;
            }
            int rest = high % all;
            for (int l = 0; l < road.rows(); l++) {
                int chance = weightOf(l) > 0 ? road.chances[l] : 0;
                if (rest < chance) {
                    return l;
                }
                rest -= chance;
            }
            return 0;
        }
    }

    /** How it was ahead of the latest acts. */
    private static final class Past {
        private static final int MOST_ACTS = 8;

        private final Trip[] trips = new Trip[MOST_ACTS];
        private int acts;

        Past(Road road) {
            for (int i = 0; i < MOST_ACTS; i++) {
                trips[i] = new Trip(road);
            }
        }

        void forget() {
            acts = 0;
        }

        /** Keeps how it is; the oldest one goes if there are too many, and its room is used again. */
        void keep(Trip trip) {
            if (acts >= MOST_ACTS) {
                Trip oldest = trips[0];
                for (int i = 1; i < MOST_ACTS; i++) {
                    trips[i - 1] = trips[i];
                }
                trips[MOST_ACTS - 1] = oldest;
                acts = MOST_ACTS - 1;
            }
            trips[acts].copyFrom(trip);
            acts++;
        }

        int recall(Trip trip) {
            if (acts <= 0) {
                return NONE;
            }
            acts--;
            trip.copyFrom(trips[acts]);
            return acts;
        }
    }

    /** In how many ways of all it ends how and when, counted exactly from a case that is set. */
    private static final class Odds {
        private Road road;
        private int age = NONE;
        /** The case: who has a colour, the scores, the goal, the lands' weights, how many cars come yet. */
        private final int[] holder = new int[KINDS];
        private final int[] score = new int[MOST_PLAYERS];
        private final long[] weight = new long[MOST_LANDS];
        private int aim;
        private int rest;
        /** What came out: all ways, those in which one or nobody wins, those over by the n-th car. */
        private long all;
        private long winless;
        private final long[] win = new long[MOST_PLAYERS];
        private final long[] done = new long[MOST_CARS + 1];
        /** Ways to scores that are not over, by how far each is above his score in the case. */
        private final long[] ways = new long[TABLE];
        private final int[] range = new int[MOST_PLAYERS];
        private final int[] gained = new int[MOST_PLAYERS];
        private final int[] reached = new int[MOST_PLAYERS];

        Odds(Road road) {
            this.road = road;
        }

        /** Reckons how it stands, but once as long as it stands so. */
        void reckonFor(Trip trip) {
            if (age != trip.age) {
                setTo(trip);
                reckon();
                age = trip.age;
            }
        }

        void setTo(Trip trip) {
            setPlayers(trip);
            rest = trip.isOver() ? 0 : road.mostCars - trip.came;
            System.arraycopy(trip.score, 0, score, 0, MOST_PLAYERS);
            for (int l = 0; l < MOST_LANDS; l++) {
                weight[l] = l < road.rows() ? trip.weightOf(l) : 0;
            }
        }

        void setToBeginning(Trip trip) {
            setPlayers(trip);
            rest = road.mostCars;
            System.arraycopy(road.starts, 0, score, 0, MOST_PLAYERS);
            for (int l = 0; l < MOST_LANDS; l++) {
                weight[l] = l < road.rows() ? road.chances[l] : 0;
            }
        }

        private void setPlayers(Trip trip) {
            road = trip.road;
            age = NONE;
            aim = road.aim;
            for (int c = 0; c < KINDS; c++) {
                holder[c] = road.hasColour(c) ? trip.holderOf(c) : NONE;
            }
        }

        void dropAll(int p) {
            for (int c = 0; c < KINDS; c++) {
                if (holder[c] == p) {
                    holder[c] = NONE;
                }
            }
        }

        void reckon() {
            clearResults();
            long weights = 0;
            for (int l = 0; l < road.rows(); l++) {
                weights += weight[l];
            }
            all = weights * TWELVES[rest];
            int first = firstAtGoal();
            if (first != NONE || rest == 0) {
                credit(first != NONE ? first : soleLeader(score, road.players), weights, 0);
                return;
            }
            setRanges();
            for (int l = 0; l < road.rows(); l++) {
                Arrays.fill(ways, 0);
                ways[0] = weight[l];
                for (int t = 1; t <= rest; t++) {
                    passCars(l, t);
                }
            }
        }

        private void clearResults() {
            all = 0;
            winless = 0;
            Arrays.fill(win, 0);
            Arrays.fill(done, 0);
        }

        private int firstAtGoal() {
            for (int p = 0; p < road.players; p++) {
                if (score[p] >= aim) {
                    return p;
                }
            }
            return NONE;
        }

        /** Who has no colour keeps his score, so the table needs no room for him. */
        private void setRanges() {
            for (int p = 0; p < MOST_PLAYERS; p++) {
                range[p] = 1;
                gained[p] = 0;
            }
            for (int c = 0; c < MOST_COLOURS; c++) {
                int p = holder[c];
                if (road.hasPlayer(p)) {
                    range[p] = Math.min(SIDE, aim - score[p]);
                }
            }
        }

        /** One car, the t-th from now, in a land: from the highest scores down, as those it leads to are done then. */
        private void passCars(int l, int t) {
            int reach = (t - 1) * MOST_WORTH + 1;
            for (int a = Math.min(range[0], reach) - 1; a >= 0; a--) {
                gained[0] = a;
                for (int b = Math.min(range[1], reach) - 1; b >= 0; b--) {
                    gained[1] = b;
                    for (int d = Math.min(range[2], reach) - 1; d >= 0; d--) {
                        gained[2] = d;
                        int at = (a * SIDE + b) * SIDE + d;
                        long here = ways[at];
                        ways[at] = 0;
                        for (int c = 0; c < KINDS && here != 0; c++) {
                            if (road.cars[l][c] > 0) {
                                passCar(at, c, here * road.cars[l][c], t);
                            }
                        }
                    }
                }
            }
        }

        private void passCar(int at, int c, long some, int t) {
            int p = holder[c];
            int more = p == NONE ? 0 : road.worth[c];
            if (p != NONE && score[p] + gained[p] + more >= aim) {
                credit(p, some, t);
            } else if (t == rest || road.ends[c]) {
                for (int i = 0; i < MOST_PLAYERS; i++) {
                    reached[i] = score[i] + gained[i] + (i == p ? more : 0);
                }
                credit(soleLeader(reached, road.players), some, t);
            } else {
                ways[p == NONE ? at : at + more * STEPS[p]] += some;
            }
        }

        /** It is over by the t-th car: the cars that would follow count as they may. */
        private void credit(int winner, long some, int t) {
            long counted = some * TWELVES[rest - t];
            if (winner == NONE) {
                winless += counted;
            } else {
                win[winner] += counted;
            }
            done[t] += counted;
        }

        /** The mean of the cars that come yet, times all ways. */
        long carsYet() {
            long sum = 0;
            for (int t = 1; t <= MOST_CARS; t++) {
                sum += t * done[t];
            }
            return sum;
        }

        long doneBehind(int n) {
            long sum = 0;
            for (int t = 0; t <= n && t <= MOST_CARS; t++) {
                sum += done[t];
            }
            return sum;
        }
    }

    /** What players take in turn, each foreseeing those behind him. */
    private static final class Chooser {
        private final Odds odds;
        private int age = NONE;
        private long all;
        /** What comes out from a player on: rows by players, one more for when all have chosen. */
        private final long[][] wins = new long[MOST_PLAYERS + 1][MOST_PLAYERS];
        private final int[][] taken = new int[MOST_PLAYERS + 1][MOST_PLAYERS];
        private final int[] picked = new int[MOST_PLAYERS];

        Chooser(Odds odds) {
            this.odds = odds;
        }

        void reckonFor(Trip trip) {
            if (age != trip.age) {
                System.arraycopy(trip.own, 0, picked, 0, MOST_PLAYERS);
                chooseFrom(0, trip);
                all = odds.all;
                age = trip.age;
            }
        }

        private void chooseFrom(int p, Trip trip) {
            if (p >= trip.road.players || p >= MOST_PLAYERS) {
                settle(p, trip);
                return;
            }
            if (trip.own[p] != NONE) {
                chooseFrom(p + 1, trip);
                adopt(p);
                return;
            }
            boolean found = false;
            for (int c = 0; c < trip.road.colours; c++) {
                if (isFree(c, trip.road.players)) {
                    picked[p] = c;
                    chooseFrom(p + 1, trip);
                    if (!found || wins[p + 1][p] > wins[p][p]) {
                        adopt(p);
                    }
                    found = true;
                    picked[p] = NONE;
                }
            }
            if (!found) {
                chooseFrom(p + 1, trip);
                adopt(p);
            }
        }

        private boolean isFree(int c, int players) {
            for (int p = 0; p < players && p < MOST_PLAYERS; p++) {
                if (picked[p] == c) {
                    return false;
                }
            }
            return true;
        }

        private void settle(int row, Trip trip) {
            odds.setTo(trip);
            for (int p = 0; p < trip.road.players; p++) {
                if (picked[p] != NONE) {
                    odds.holder[picked[p]] = p;
                }
            }
            odds.reckon();
            System.arraycopy(odds.win, 0, wins[row], 0, MOST_PLAYERS);
            System.arraycopy(picked, 0, taken[row], 0, MOST_PLAYERS);
        }

        private void adopt(int p) {
            System.arraycopy(wins[p + 1], 0, wins[p], 0, MOST_PLAYERS);
            System.arraycopy(taken[p + 1], 0, taken[p], 0, MOST_PLAYERS);
        }
    }

    /**
     * What it is worth to a player that he may turn once yet. By how many cars of each colour came
     * since, all scores and all lands' weights are known, so values stand by these numbers; what
     * turning is worth stands in a table by scores for each free colour and land. Both go from the
     * last car back to now, each in one row: a value is made of ones behind it in the row alone.
     */
    private static final class Waiting {
        /** In how many ways at most twelve cars can be of four colours (and grey). */
        private static final int MIXES = 1820;
        /** He has a colour himself. */
        private static final int MOST_FREE = MOST_COLOURS - 1;

        private Road road;
        private int age = NONE;
        private int me = NONE;
        private long all;
        private long value;
        private int turnsTo = NONE;
        private int rest;
        private final int[] holder = new int[KINDS];
        private final int[] free = new int[MOST_FREE];
        private int frees;
        private final int[] range = new int[MOST_PLAYERS];
        private final int[] limit = new int[MOST_COLOURS];
        private final int[] score = new int[MOST_PLAYERS];
        private final int[] reached = new int[MOST_PLAYERS];
        private final int[] many = new int[KINDS];
        private final long[] firstWeight = new long[MOST_LANDS];
        /** What a land's weight becomes by so many cars of a kind. */
        private final long[][] powers = new long[MOST_LANDS * KINDS][MOST_CARS + 1];
        private final long[] weight = new long[MOST_LANDS];
        private final long[] values = new long[MIXES];
        private final long[][] tables = new long[MOST_FREE * MOST_LANDS][TABLE];

        Waiting(Road road) {
            this.road = road;
        }

        void reckonFor(Trip trip, int p) {
            if (age == trip.age && me == p) {
                return;
            }
            me = p;
            age = trip.age;
            setTo(trip);
            for (int r = 1; r <= rest && r <= MOST_CARS; r++) {
                for (int j = 0; j < frees; j++) {
                    for (int l = 0; l < road.rows(); l++) {
                        fillTable(j, l, r);
                    }
                }
                valueMixes(r);
            }
        }

        private void setTo(Trip trip) {
            road = trip.road;
            rest = road.mostCars - trip.came;
            frees = 0;
            for (int c = 0; c < KINDS; c++) {
                holder[c] = road.hasColour(c) ? trip.holderOf(c) : NONE;
                if (road.hasColour(c) && holder[c] == NONE && frees < MOST_FREE) {
                    free[frees] = c;
                    frees++;
                }
            }
            for (int p = 0; p < MOST_PLAYERS; p++) {
                score[p] = trip.score[p];
                range[p] = trip.own[p] == NONE ? 1 : Math.min(SIDE, road.aim - score[p]);
            }
            for (int c = 0; c < MOST_COLOURS; c++) {
                limit[c] = limitOf(c);
            }
            for (int l = 0; l < road.rows(); l++) {
                firstWeight[l] = trip.weightOf(l);
                fillPowers(l);
            }
            all = trip.allWeights() * TWELVES[rest];
        }

        private void fillPowers(int l) {
            for (int c = 0; c < KINDS; c++) {
                long[] row = powers[l * KINDS + c];
                row[0] = 1;
                for (int n = 1; n <= MOST_CARS; n++) {
                    row[n] = row[n - 1] * road.cars[l][c];
                }
            }
        }

        /** How often a colour can come without its being over. */
        private int limitOf(int c) {
            if (!road.hasColour(c) || road.ends[c]) {
                return 0;
            }
            int p = holder[c];
            return p == NONE || road.worth[c] <= 0 ? MOST_CARS : (road.aim - 1 - score[p]) / road.worth[c];
        }

        /** Ways to win in a land with r cars to come, if he has turned to the j-th free colour. */
        private void fillTable(int j, int l, int r) {
            long[] table = tables[j * MOST_LANDS + l];
            int reach = (rest - r) * MOST_WORTH + 1;
            for (int a = 0; a < range[0] && a < reach; a++) {
                reached[0] = score[0] + a;
                for (int b = 0; b < range[1] && b < reach; b++) {
                    reached[1] = score[1] + b;
                    for (int d = 0; d < range[2] && d < reach; d++) {
                        reached[2] = score[2] + d;
                        int at = (a * SIDE + b) * SIDE + d;
                        table[at] = waysFrom(table, at, free[j], l, r);
                    }
                }
            }
        }

        private long waysFrom(long[] table, int at, int mine, int l, int r) {
            long sum = 0;
            for (int c = 0; c < KINDS; c++) {
                int n = road.cars[l][c];
                if (n > 0) {
                    int p = c == mine ? me : holder[c] == me ? NONE : holder[c];
                    long done = waysDone(p, c, r);
                    if (done == NONE) {
                        done = table[p == NONE ? at : at + road.worth[c] * STEPS[p]];
                    }
                    sum += n * done;
                }
            }
            return sum;
        }

        /** Ways to win, if it is over by a car that p counts, with all cars that would follow; NONE: it goes on. */
        private long waysDone(int p, int c, int r) {
            int winner;
            if (p != NONE && reached[p] + road.worth[c] >= road.aim) {
                winner = p;
            } else if (r == 1 || road.ends[c]) {
                gain(p, c, 1);
                winner = soleLeader(reached, road.players);
                gain(p, c, -1);
            } else {
                return NONE;
            }
            return winner == me ? TWELVES[r - 1] : 0;
        }

        private void gain(int p, int c, int times) {
            if (p != NONE) {
                reached[p] += times * road.worth[c];
            }
        }

        private int scoreIndex() {
            int at = 0;
            for (int p = 0; p < MOST_PLAYERS; p++) {
                at += (reached[p] - score[p]) * STEPS[p];
            }
            return at;
        }

        /** Values of all mixes of the cars that came since, with r cars to come. */
        private void valueMixes(int r) {
            int since = rest - r;
            for (int i = 0; i <= Math.min(limit[0], since); i++) {
                for (int j = 0; j <= Math.min(limit[1], since - i); j++) {
                    for (int k = 0; k <= Math.min(limit[2], since - i - j); k++) {
                        for (int m = 0; m <= Math.min(limit[3], since - i - j - k); m++) {
                            many[0] = i;
                            many[1] = j;
                            many[2] = k;
                            many[3] = m;
                            many[GREY] = since - i - j - k - m;
                            valueMix(r);
                        }
                    }
                }
            }
        }

        private void valueMix(int r) {
            weighMix();
            int at = scoreIndex();
            long most = waitValue(r);
            int to = NONE;
            for (int j = 0; j < frees; j++) {
                long turning = 0;
                for (int l = 0; l < road.rows(); l++) {
                    turning += weight[l] * tables[j * MOST_LANDS + l][at];
                }
                if (turning > most) {
                    most = turning;
                    to = free[j];
                }
            }
            values[mixIndex()] = most;
            // The last mix that is valued is how it is now.
            value = most;
            turnsTo = to;
        }

        /** Scores and weights by the cars of the mix. */
        private void weighMix() {
            System.arraycopy(score, 0, reached, 0, MOST_PLAYERS);
            for (int c = 0; c < MOST_COLOURS; c++) {
                gain(holder[c], c, many[c]);
            }
            for (int l = 0; l < road.rows(); l++) {
                weight[l] = firstWeight[l];
                for (int c = 0; c < KINDS; c++) {
                    weight[l] *= powers[l * KINDS + c][many[c]];
                }
            }
        }

        private long waitValue(int r) {
            long sum = 0;
            for (int c = 0; c < KINDS; c++) {
                long some = 0;
                for (int l = 0; l < road.rows(); l++) {
                    some += weight[l] * road.cars[l][c];
                }
                if (some > 0) {
                    long done = waysDone(holder[c], c, r);
                    if (done == NONE) {
                        many[c]++;
                        sum += values[mixIndex()];
                        many[c]--;
                    } else {
                        sum += some * done;
                    }
                }
            }
            return sum;
        }

        /** A number of its own for each mix: grey ones follow from how many came. */
        private int mixIndex() {
            int a = many[0];
            int b = a + many[1];
            int c = b + many[2];
            int d = c + many[3];
            return a + b * (b + 1) / 2 + c * (c + 1) * (c + 2) / 6 + d * (d + 1) * (d + 2) * (d + 3) / 24;
        }
    }
}
