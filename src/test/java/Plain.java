import java.math.BigInteger;
import java.util.ArrayDeque;
import java.util.ArrayList;
import java.util.Arrays;
import java.util.Deque;
import java.util.HashSet;
import java.util.List;
import java.util.NoSuchElementException;
import java.util.Set;

/**
 * The whole document told once more, as plainly as it can be: every call of the face by the same name,
 * states that never change and are put aside whole, chances by the oracle. PlainTest compares.
 */
final class Plain {
    /** Roads as the oracle has them, with the names that only texts need. */
    private static final class Road {
        final Oracle told = new Oracle();
        final List<String> colours = new ArrayList<>();
        final List<String> lands = new ArrayList<>();
        final List<String> players = new ArrayList<>();

        Road() {
            for (int l = 0; l < 3; l++) {
                told.cars[l][4] = 12;
            }
        }
    }

    private static final class State {
        final Road road;
        final List<Integer> came = new ArrayList<>();
        final int[] own = {-1, -1, -1};
        final boolean[] turned = new boolean[3];
        private Oracle oracle;

        State(Road road) {
            this.road = road;
        }

        State copy() {
            State s = new State(road);
            s.came.addAll(came);
            System.arraycopy(own, 0, s.own, 0, 3);
            System.arraycopy(turned, 0, s.turned, 0, 3);
            s.gained = gained.clone();
            return s;
        }

        int[] gained = new int[3];

        State taking(int p, int c) {
            State s = copy();
            s.own[p] = c;
            return s;
        }

        State turning(int p, int c) {
            State s = taking(p, c);
            s.turned[p] = true;
            return s;
        }

        State coming(int c) {
            State s = copy();
            s.came.add(c);
            for (int p = 0; p < road.players.size(); p++) {
                if (c >= 0 && own[p] == c) {
                    s.gained[p] += road.told.worth[c];
                }
            }
            return s;
        }

        Oracle oracle() {
            if (oracle == null) {
                Oracle t = road.told;
                oracle = new Oracle();
                oracle.colours = t.colours;
                oracle.lands = t.lands;
                oracle.players = t.players;
                oracle.goal = t.goal;
                oracle.most = t.most;
                oracle.change = t.change;
                System.arraycopy(t.worth, 0, oracle.worth, 0, 4);
                System.arraycopy(t.ends, 0, oracle.ends, 0, 4);
                System.arraycopy(t.chance, 0, oracle.chance, 0, 3);
                System.arraycopy(t.start, 0, oracle.start, 0, 3);
                for (int l = 0; l < 3; l++) {
                    System.arraycopy(t.cars[l], 0, oracle.cars[l], 0, 5);
                    oracle.score[l] = t.start[l] + gained[l];
                }
                oracle.came = new ArrayList<>(came);
                oracle.own = own.clone();
                System.arraycopy(turned, 0, oracle.turned, 0, 3);
            }
            return oracle;
        }
    }

    private interface Cond {
        boolean isSo(Oracle o, int p);
    }

    private record Token(char sort, String text, int place) {
    }

    private static final class Fault extends RuntimeException {
        private static final long serialVersionUID = 1;
        final int kind;
        final int place;

        Fault(int kind, int place) {
            this.kind = kind;
            this.place = place;
        }
    }

    /** All tokens of a text at once; then they are gone through. */
    private static final class Text {
        private static final Set<String> OWN_WORDS = new HashSet<>(Arrays.asList(
            "colour", "ends", "land", "player", "goal", "cars", "change", "takes", "turns", "comes", "grey", "or",
            "and", "not", "leads", "won", "has", "turned", "score", "start", "needs", "number"));
        private final List<Token> tokens = new ArrayList<>();
        private int at;

        Text(String text, int most) {
            java.util.regex.Matcher m = java.util.regex.Pattern.compile("[a-z0-9]+|[^ \n]", java.util.regex.Pattern.DOTALL)
                .matcher(text);
            while (m.find()) {
                if (m.start() < most) {
                    tokens.add(new Token(sortOf(m.group()), m.group(), m.start()));
                }
            }
            tokens.add(text.length() > most ? new Token('?', "", most) : new Token('$', "", text.length()));
        }

        private static char sortOf(String s) {
            return s.matches("[a-z]{1,7}") ? 'w' : s.matches("[0-9]{1,2}") ? 'n' : ";<=>()".contains(s) ? s.charAt(0) : '?';
        }

        Token here() {
            return tokens.get(at);
        }

        boolean is(String word) {
            return here().sort == 'w' && here().text.equals(word) || here().text.equals(word) && here().sort == word.charAt(0);
        }

        boolean isEnd() {
            return here().sort == '$';
        }

        boolean skips(String word) {
            boolean there = is(word);
            at += there ? 1 : 0;
            return there;
        }

        void needs(boolean good, int kind) {
            if (!good) {
                throw new Fault(kind, here().place);
            }
        }

        void close() {
            needs(skips(";"), 1);
        }

        /** A name that may come; whether it is told is asked next. */
        String name() {
            needs(here().sort == 'w' && !OWN_WORDS.contains(here().text), 1);
            return here().text;
        }

        int index(List<String> names) {
            int i = names.indexOf(name());
            needs(i >= 0, 3);
            return i;
        }

        int number(int least, int most) {
            needs(here().sort == 'n', 1);
            int n = Integer.parseInt(here().text);
            needs(n >= least && n <= most, 2);
            at++;
            return n;
        }
    }

    private String tape = "";
    private State state = new State(new Road());
    private Cond sentence;
    private int fault;
    private final Deque<State> past = new ArrayDeque<>();
    private final State[] keptStates = new State[2];
    private final Cond[] keptSentences = new Cond[2];
    private final int[] took = {-1, -1, -1};
    private final int[] logged = {-1, -1, -1, -1};

    int feed(int a, int b, int c, int d, int e) {
        if (tape.length() + 20 > 940) {
            return -1;
        }
        StringBuilder s = new StringBuilder(tape);
        for (int n : new int[] {a, b, c, d, e}) {
            s.append((char) (n >>> 24)).append((char) (n >>> 16 & 255)).append((char) (n >>> 8 & 255)).append((char) (n & 255));
        }
        tape = s.toString();
        return tape.length();
    }

    boolean end(int n) {
        if (n < 0 || n > tape.length()) {
            return false;
        }
        tape = tape.substring(0, n);
        return true;
    }

    private String tear() {
        String text = tape;
        tape = "";
        fault = 0;
        return text;
    }

    int road() {
        try {
            Road road = new Road();
            int lines = readRoad(new Text(tear(), 900), road);
            state = new State(road);
            past.clear();
            sentence = null;
            return lines;
        } catch (Fault f) {
            fault = f.kind;
            return -1 - f.place;
        }
    }

    private static int readRoad(Text t, Road road) {
        Set<String> once = new HashSet<>();
        int lines = 0;
        while (!t.isEnd()) {
            Token first = t.here();
            t.needs(first.sort == 'w', 1);
            t.at++;
            switch (first.text) {
                case "colour" -> {
                    atMost(first, road.colours.size(), 4);
                    newName(t, road, road.colours);
                    road.told.worth[road.told.colours++] = t.number(1, 3);
                }
                case "ends" -> {
                    int c = t.index(road.colours);
                    t.needs(!road.told.ends[c], 3);
                    road.told.ends[c] = true;
                    t.at++;
                }
                case "land" -> {
                    atMost(first, road.lands.size(), 3);
                    newName(t, road, road.lands);
                    readLand(t, road);
                }
                case "player" -> {
                    atMost(first, road.players.size(), 3);
                    newName(t, road, road.players);
                    road.told.start[road.told.players++] = t.number(0, 8);
                }
                case "goal", "cars", "change" -> {
                    if (!once.add(first.text)) {
                        throw new Fault(3, first.place);
                    }
                    if (first.text.equals("goal")) {
                        road.told.goal = t.number(1, 9);
                    } else if (first.text.equals("cars")) {
                        road.told.most = t.number(1, 12);
                    } else {
                        road.told.change = true;
                    }
                }
                default -> throw new Fault(1, first.place);
            }
            t.close();
            lines++;
        }
        return lines;
    }

    private static void atMost(Token first, int there, int most) {
        if (there == most) {
            throw new Fault(4, first.place);
        }
    }

    private static void newName(Text t, Road road, List<String> names) {
        String name = t.name();
        t.needs(!road.colours.contains(name) && !road.lands.contains(name) && !road.players.contains(name), 3);
        names.add(name);
        t.at++;
    }

    private static void readLand(Text t, Road road) {
        int l = road.told.lands++;
        road.told.chance[l] = t.number(1, 9);
        int all = 0;
        while (!t.is(";")) {
            int c = t.index(road.colours);
            t.needs(road.told.cars[l][c] == 0, 3);
            t.at++;
            int n = t.number(1, 12 - all);
            all += n;
            road.told.cars[l][c] = n;
        }
        road.told.cars[l][4] = 12 - all;
    }

    int fault() {
        return fault;
    }

    private boolean hasColour(int c) {
        return c >= 0 && c < state.road.colours.size();
    }

    private boolean hasPlayer(int p) {
        return p >= 0 && p < state.road.players.size();
    }

    private static void must(boolean such) {
        if (!such) {
            throw new NoSuchElementException();
        }
    }

    int colour(int c, int what) {
        if (!hasColour(c)) {
            return -1;
        }
        int came = 0;
        for (int k : state.came) {
            came += k == c ? 1 : 0;
        }
        return what == 0 ? state.road.told.worth[c] : what == 1 ? state.road.told.ends[c] ? 1 : 0
            : what == 2 ? state.oracle().holder(c) : what == 3 ? came : -1;
    }

    int land(int l, int c) {
        boolean such = l >= 0 && l < state.road.lands.size() && (c == -1 || hasColour(c));
        return such ? state.road.told.cars[l][c == -1 ? 4 : c] : -1;
    }

    int player(int p, int what) {
        must(hasPlayer(p) && what >= 0 && what <= 3);
        return new int[] {state.oracle().score[p], state.road.told.start[p], state.own[p], state.turned[p] ? 1 : 0}[what];
    }

    int now(int what) {
        Oracle o = state.oracle();
        int leader = -1;
        for (int p = o.players - 1; p >= 0; p--) {
            leader = leader < 0 || o.score[p] >= o.score[leader] ? p : leader;
        }
        int grey = 0;
        for (int k : state.came) {
            grey += k == -1 ? 1 : 0;
        }
        return what < 0 || what > 4 ? -1 : new int[] {o.came.size(), o.over() ? 1 : 0, o.winner(), leader, grey}[what];
    }

    private static int whyNotTake(State s, int p, int c) {
        return s.oracle().over() ? 1 : s.own[p] >= 0 ? 2 : s.oracle().holder(c) >= 0 ? 3 : 0;
    }

    private static int whyNotTurn(State s, int p, int c) {
        return s.oracle().over() ? 1 : !s.road.told.change ? 2 : s.own[p] < 0 || s.turned[p] ? 3
            : s.oracle().holder(c) >= 0 ? 4 : 0;
    }

    private static int whyNotCome(State s, int c) {
        Oracle o = s.oracle();
        return o.over() ? 1 : Oracle.sum(o.weightsWith(o.weights(), c < 0 ? 4 : c)) == 0 ? 2 : 0;
    }

    private void go(State next) {
        past.addLast(state);
        if (past.size() > 8) {
            past.removeFirst();
        }
        state = next;
    }

    int take(int p, int c) {
        if (!hasPlayer(p) || !hasColour(c)) {
            return -1;
        }
        int why = whyNotTake(state, p, c);
        if (why == 0) {
            go(state.taking(p, c));
        }
        return why;
    }

    int turn(int p, int c) {
        if (!hasPlayer(p) || !hasColour(c)) {
            return -1;
        }
        int why = whyNotTurn(state, p, c);
        if (why == 0) {
            go(state.turning(p, c));
        }
        return why;
    }

    int come(int c) {
        if (c != -1 && !hasColour(c)) {
            return -1;
        }
        int why = whyNotCome(state, c);
        if (why == 0) {
            go(state.coming(c));
        }
        return why;
    }

    int undo() {
        if (past.isEmpty()) {
            return -1;
        }
        state = past.removeLast();
        return past.size();
    }

    private static long part(long above, long below, int what) {
        must(what == 0 || what == 1);
        long g = BigInteger.valueOf(above).gcd(BigInteger.valueOf(below)).longValueExact();
        return what == 0 ? above / g : below / g;
    }

    long likely(int p, int what) {
        must(hasPlayer(p));
        return part(state.oracle().now()[p], state.oracle().all(), what);
    }

    long nobody(int what) {
        return part(state.oracle().now()[Oracle.NOBODY], state.oracle().all(), what);
    }

    long where(int l, int what) {
        must(l >= 0 && l < state.road.lands.size());
        return part(state.oracle().weights()[l], Oracle.sum(state.oracle().weights()), what);
    }

    long next(int c, int what) {
        must(c == -1 || hasColour(c));
        long[] w = state.oracle().weights();
        return part(Oracle.sum(state.oracle().weightsWith(w, c < 0 ? 4 : c)), 12 * Oracle.sum(w), what);
    }

    long left(int what) {
        return part(state.oracle().now()[Oracle.YET], state.oracle().all(), what);
    }

    long over(int n, int what) {
        must(n >= 0 && n <= 12);
        return part(state.oracle().now()[Oracle.OVER + n], state.oracle().all(), what);
    }

    int favourite() {
        int best = -1;
        for (int p = 0; p < state.road.players.size(); p++) {
            best = best < 0 || state.oracle().now()[p] > state.oracle().now()[best] ? p : best;
        }
        return best;
    }

    int chosen(int p) {
        if (!hasPlayer(p)) {
            return -1;
        }
        Oracle o = state.copy().oracle();
        o.choose(0);
        return o.own[p];
    }

    long chance(int p, int what) {
        must(hasPlayer(p));
        Oracle o = state.copy().oracle();
        return part(o.choose(0)[p], o.all(), what);
    }

    int which(int p) {
        Oracle o = state.oracle();
        int best = -1;
        for (int c = 0; hasPlayer(p) && !o.over() && c < o.colours; c++) {
            if (o.holder(c) < 0 && (best < 0 || o.nowWith(p, c, true)[p] > o.nowWith(p, best, true)[p])) {
                best = c;
            }
        }
        return best;
    }

    private long apart(int[] starts, int goal) {
        long[] out = state.oracle().first(starts, goal);
        return Math.abs(out[0] - out[1]);
    }

    int fair(int p) {
        if (!hasPlayer(p) || state.road.players.size() != 2) {
            return -1;
        }
        long[] by = new long[9];
        for (int start = 0; start <= 8; start++) {
            int[] starts = state.road.told.start.clone();
            starts[p] = start;
            by[start] = apart(starts, state.road.told.goal);
        }
        return leastOf(by);
    }

    int goal() {
        if (state.road.players.size() != 2) {
            return -1;
        }
        long[] by = new long[9];
        for (int goal = 1; goal <= 9; goal++) {
            by[goal - 1] = apart(state.road.told.start, goal);
        }
        return 1 + leastOf(by);
    }

    private static int leastOf(long[] numbers) {
        long least = Arrays.stream(numbers).min().getAsLong();
        int i = 0;
        while (numbers[i] != least) {
            i++;
        }
        return i;
    }

    long right(int p, int what) {
        must(hasPlayer(p));
        Oracle o = state.oracle();
        long value = o.mayTurn(p) ? o.right(p, o.weights(), o.score, o.rest(), new int[1]) : o.now()[p];
        return part(value, o.all(), what);
    }

    int best(int p) {
        Oracle o = state.oracle();
        int[] to = {-1};
        if (hasPlayer(p) && o.mayTurn(p)) {
            o.right(p, o.weights(), o.score, o.rest(), to);
        }
        return to[0];
    }

    long also(int p, int c, int what) {
        must(hasPlayer(p) && hasColour(c));
        Oracle o = state.oracle();
        must(o.holder(c) < 0 && o.own[p] >= 0);
        return part(o.nowWith(p, c, false)[p] - o.now()[p], o.all(), what);
    }

    int scores() {
        int[] told = tape.chars().toArray();
        tape = "";
        int n = state.road.players.size();
        if (n == 0 || told.length != n) {
            return -1;
        }
        List<int[]> ways = new ArrayList<>();
        findWays(told, new ArrayList<>(), ways);
        if (!ways.isEmpty()) {
            Arrays.fill(took, -1);
            System.arraycopy(ways.get(0), 0, took, 0, n);
        }
        return ways.size();
    }

    private void findWays(int[] told, List<Integer> taken, List<int[]> ways) {
        int p = taken.size();
        if (p == told.length) {
            ways.add(taken.stream().mapToInt(c -> c).toArray());
            return;
        }
        for (int c = 0; c < state.road.colours.size(); c++) {
            if (!taken.contains(c) && state.road.told.start[p] + colour(c, 0) * colour(c, 3) == told[p]) {
                taken.add(c);
                findWays(told, taken, ways);
                taken.remove(p);
            }
        }
    }

    int took(int p) {
        return hasPlayer(p) ? took[p] : -1;
    }

    int car(int k) {
        return k >= 0 && k < state.came.size() ? state.came.get(k) : -2;
    }

    int row() {
        int best = 0;
        for (int from = 0; from < state.came.size(); from++) {
            int to = from;
            while (to < state.came.size() && state.came.get(to) >= 0 && state.came.get(to).equals(state.came.get(from))) {
                to++;
            }
            best = Math.max(best, to - from);
        }
        return best;
    }

    long luck(int what) {
        must(what == 0 || what == 1);
        long below = 0;
        for (int l = 0; l < state.oracle().rows(); l++) {
            below += state.road.told.chance[l];
        }
        return what == 0 ? Oracle.sum(state.oracle().weights()) : below * Oracle.twelve(state.came.size());
    }

    private static State drive(State from, int seed) {
        int[] x = {seed};
        Oracle o = from.oracle();
        List<Integer> lands = new ArrayList<>();
        for (int l = 0; l < o.lands; l++) {
            for (int k = 0; k < o.chance[l] && o.weights()[l] > 0; k++) {
                lands.add(l);
            }
        }
        int land = lands.get(draw(x, lands.size()));
        State s = from;
        while (!s.oracle().over()) {
            int d = draw(x, 12);
            int c = 0;
            while (c < o.colours && d >= o.cars[land][c]) {
                d -= o.cars[land][c];
                c++;
            }
            s = s.coming(c < o.colours ? c : -1);
        }
        return s;
    }

    private static int draw(int[] x, int n) {
        x[0] = (int) (x[0] * 1103515245L + 12345L);
        return (int) ((x[0] & 0xFFFFFFFFL) / 256 % n);
    }

    int drawn(int seed) {
        if (state.oracle().over() || state.road.lands.isEmpty()) {
            return -2;
        }
        go(drive(state, seed));
        return state.oracle().winner();
    }

    int wins(int p, int n, int seed) {
        if (!hasPlayer(p) || n < 1 || n > 60 || state.oracle().over() || state.road.lands.isEmpty()) {
            return -1;
        }
        int won = 0;
        for (int i = 0; i < n; i++) {
            won += drive(state, seed + i).oracle().winner() == p ? 1 : 0;
        }
        return won;
    }

    int log(int lives) {
        if (lives != 0 && lives != 1) {
            return -1000;
        }
        List<int[]> lines = new ArrayList<>();
        try {
            readLog(new Text(tear(), 400), lines);
        } catch (Fault f) {
            fault = f.kind;
            return -2 - f.place;
        }
        State s = state;
        int why = 0;
        int good = 0;
        for (int[] line : lines) {
            int p = line[1];
            int c = line[2];
            why = line[0] == 0 ? whyNotTake(s, p, c) : line[0] == 1 ? whyNotTurn(s, p, c) : whyNotCome(s, c);
            if (why > 0) {
                why += 10 * line[0];
                break;
            }
            s = line[0] == 0 ? s.taking(p, c) : line[0] == 1 ? s.turning(p, c) : s.coming(c);
            good++;
        }
        logged[0] = why;
        logged[1] = good;
        logged[2] = s.came.size();
        logged[3] = s.oracle().winner();
        if (lives == 1) {
            go(s);
        }
        return why == 0 ? -1 : good;
    }

    private void readLog(Text t, List<int[]> lines) {
        while (!t.isEnd()) {
            boolean comes = t.is("comes");
            int p = comes ? -1 : t.index(state.road.players);
            t.needs(lines.size() < 40, 4);
            t.at++;
            boolean takes = !comes && t.is("takes");
            t.needs(comes || takes || t.is("turns"), 1);
            t.at += comes ? 0 : 1;
            boolean grey = comes && t.is("grey");
            lines.add(new int[] {comes ? 2 : takes ? 0 : 1, p, grey ? -1 : t.index(state.road.colours)});
            t.at++;
            t.close();
        }
    }

    int logged(int what) {
        return what >= 0 && what < 4 ? logged[what] : -1;
    }

    int sentence() {
        try {
            Text t = new Text(tear(), 200);
            int[] ones = {0};
            Cond told = readCond(t, ones, 0);
            t.needs(t.isEnd(), 1);
            sentence = told;
            return ones[0];
        } catch (Fault f) {
            fault = f.kind;
            return -1 - f.place;
        }
    }

    private Cond readCond(Text t, int[] ones, int outside) {
        Cond first = readAll(t, ones, outside);
        if (!t.skips("or")) {
            return first;
        }
        Cond others = readCond(t, ones, outside);
        return (o, p) -> first.isSo(o, p) || others.isSo(o, p);
    }

    private Cond readAll(Text t, int[] ones, int outside) {
        Cond first = readOne(t, ones, outside);
        if (!t.skips("and")) {
            return first;
        }
        Cond others = readAll(t, ones, outside);
        return (o, p) -> first.isSo(o, p) && others.isSo(o, p);
    }

    /** A ONE that so many others are round. */
    private Cond readOne(Text t, int[] ones, int outside) {
        Token first = t.here();
        t.needs(first.sort == '(' || first.sort == 'w' && Arrays.asList("not", "leads", "won", "has", "turned", "score",
            "start", "needs", "number").contains(first.text), 1);
        t.needs(ones[0] < 20 && outside < 8, 4);
        ones[0]++;
        t.at++;
        switch (first.text) {
            case "(": {
                Cond within = readCond(t, ones, outside + 1);
                t.needs(t.skips(")"), 1);
                return within;
            }
            case "not": {
                Cond within = readOne(t, ones, outside + 1);
                return (o, p) -> !within.isSo(o, p);
            }
            case "leads":
                return (o, p) -> o.score[p] == Arrays.stream(o.score, 0, o.players).max().getAsInt();
            case "won":
                return (o, p) -> o.winner() == p;
            case "turned":
                return (o, p) -> o.turned[p];
            case "has": {
                int c = t.index(state.road.colours);
                t.at++;
                return (o, p) -> o.own[p] == c;
            }
            default:
                return readComparison(t, first.text);
        }
    }

    private static Cond readComparison(Text t, String what) {
        char sign = t.here().sort;
        t.needs("<=>".indexOf(sign) >= 0, 1);
        t.at++;
        int n = t.number(0, 99);
        return (o, p) -> {
            int value = what.equals("score") ? o.score[p] : what.equals("start") ? o.start[p] : what.equals("number") ? p
                : o.score[p] >= o.goal ? 0 : o.goal - o.score[p];
            return sign == '<' ? value < n : sign == '=' ? value == n : value > n;
        };
    }

    int said(int k) {
        if (sentence == null) {
            return -1;
        }
        List<Integer> them = new ArrayList<>();
        for (int p = 0; p < state.road.players.size(); p++) {
            if (sentence.isSo(state.oracle(), p)) {
                them.add(p);
            }
        }
        return k == -1 ? them.size() : k >= 0 && k < them.size() ? them.get(k) : -1;
    }

    boolean image(int k) {
        if (k != 0 && k != 1) {
            return false;
        }
        keptStates[k] = state;
        keptSentences[k] = sentence;
        return true;
    }

    boolean restore(int k) {
        if (k != 0 && k != 1 || keptStates[k] == null) {
            return false;
        }
        state = keptStates[k];
        sentence = keptSentences[k];
        past.clear();
        return true;
    }

    int count(int what) {
        Oracle o = state.road.told;
        return what < 0 || what > 6 ? -1
            : new int[] {o.colours, o.lands, o.players, o.goal, o.most, o.change ? 1 : 0, tape.length()}[what];
    }
}
