import java.lang.reflect.InvocationTargetException;
import java.lang.reflect.Method;
import java.lang.reflect.Modifier;
import java.util.ArrayList;
import java.util.Arrays;
import java.util.Comparator;
import java.util.List;
import java.util.NoSuchElementException;
import java.util.Random;
import java.util.regex.Matcher;
import java.util.regex.Pattern;

/**
 * All calls in any order against the plain telling of the document: each answers alike, or both refuse.
 * Other seeds than the usual ones: java PlainTest FIRST MANY.
 */
final class PlainTest {
    private static final int CALLS = 500;
    private static final String[] WORDS = {"colour", "ends", "land", "player", "goal", "cars", "change", "takes", "turns",
        "comes", "grey", "or", "and", "not", "leads", "won", "has", "turned", "score", "start", "needs", "number", "ca",
        "cb", "cc", "cd", "la", "lb", "pa", "pb", "pc", "zoe", "wwwwwww", "wwwwwwww", "0", "1", "2", "3", "9", "12", "13",
        "99", "100", "a1", "#", "A", ";", "<", "=", ">", "(", ")", ".", "\t", "\u00e9"};
    private static final List<String> RARE = Arrays.asList("road", "log", "sentence", "scores", "feed", "end", "drawn", "restore");
    private static final int[] FAR = {-2, 4, 5, 9, 12, 13, 60, 61, Integer.MIN_VALUE, Integer.MAX_VALUE};

    private final Checks t;
    private final Random r;
    private final RedWhite x = new RedWhite();
    private final Plain y = new Plain();
    private final List<String> done = new ArrayList<>();
    private int calls;
    private boolean unlike;

    private PlainTest(Checks t, Random r) {
        this.t = t;
        this.r = r;
    }

    public static void main(String[] args) throws ReflectiveOperationException {
        Checks t = new Checks();
        Method[] face = Arrays.stream(RedWhite.class.getDeclaredMethods())
            .filter(m -> Modifier.isPublic(m.getModifiers())).sorted(Comparator.comparing(Method::getName))
            .toArray(Method[]::new);
        long from = args.length > 0 ? Long.parseLong(args[0]) : 0;
        long many = args.length > 1 ? Long.parseLong(args[1]) : 300;
        for (long seed = from; seed < from + many; seed++) {
            new PlainTest(t, new Random(seed)).run(face);
        }
        t.finish();
    }

    private void run(Method[] face) throws ReflectiveOperationException {
        read(road(), "road");
        while (calls < CALLS - 80 && !unlike) {
            int what = r.nextInt(60);
            if (what == 0) {
                read(bent(road(), 900), "road");
            } else if (what == 1) {
                read(bent(log(), 400), "log", r.nextInt(4) == 0 ? 0 : 1);
            } else if (what == 2) {
                read(bent(sentence(0) + tail(), 200), "sentence");
            } else if (what == 3) {
                read(claim(), "scores");
            } else if (what < 20) {
                act();
            } else {
                ask(face[r.nextInt(face.length)]);
            }
        }
    }

    /** Calls that change much come seldom by chance alone, so that trips go on. */
    private void ask(Method m) throws ReflectiveOperationException {
        if (RARE.contains(m.getName()) && r.nextInt(30) > 0) {
            return;
        }
        Object[] numbers = new Object[m.getParameterCount()];
        boolean far = r.nextInt(6) == 0;
        for (int i = 0; i < numbers.length; i++) {
            boolean last = i == numbers.length - 1;
            numbers[i] = far && r.nextInt(3) == 0 ? FAR[r.nextInt(FAR.length)] : i == 0 ? near(m.getName()) : r.nextInt(last ? 2 : 4);
        }
        call(m.getName(), numbers);
    }

    private int near(String name) {
        switch (name) {
            case "over", "car":
                return r.nextInt(14);
            case "colour", "come", "next":
                return r.nextInt(6) - 1;
            case "now", "count":
                return r.nextInt(8) - 1;
            case "logged", "said":
                return r.nextInt(6) - 1;
            case "drawn":
                return r.nextInt();
            case "left", "nobody", "luck":
                return r.nextInt(2);
            default:
                calls++;
                return r.nextInt(x.count(2) + 1);
        }
    }

    /** Mostly one on which much can happen yet. */
    private String road() {
        Oracle o = Oracle.random(r, 12);
        boolean any = r.nextInt(6) == 0;
        while (!any && (o.players < 2 || o.colours < 2 || o.lands < 1 || o.over() || o.most < 3)) {
            o = Oracle.random(r, 12);
        }
        return o.text();
    }

    private void act() throws ReflectiveOperationException {
        int p = r.nextInt(Math.max(1, x.count(2)));
        int c = r.nextInt(Math.max(1, x.count(0)));
        switch (r.nextInt(9)) {
            case 0, 1 -> call("take", p, c);
            case 2 -> call("turn", p, c);
            case 3 -> call("undo");
            case 4 -> call(r.nextInt(3) == 0 ? "restore" : x.now(1) == 1 ? "undo" : "image", r.nextInt(2));
            case 5 -> call("come", -1);
            default -> call("come", c);
        }
        calls += 3;
    }

    /** Lines that mostly name what the road tells. */
    private String log() {
        StringBuilder s = new StringBuilder();
        boolean loose = r.nextInt(8) == 0;
        int colours = loose ? 4 : x.count(0);
        int players = loose ? 3 : x.count(2);
        calls += 2;
        for (int i = r.nextInt(r.nextInt(4) == 0 ? 45 : 8); i > 0; i--) {
            String who = players > 0 ? "p" + (char) ('a' + r.nextInt(players)) : "";
            String colour = colours > 0 ? "c" + (char) ('a' + r.nextInt(colours)) : "grey";
            boolean acts = players > 0 && colours > 0 && r.nextInt(5) < 2;
            s.append(acts ? who + (r.nextInt(3) == 0 ? " turns " : " takes ") : "comes ");
            s.append(acts || r.nextInt(3) > 0 ? colour : "grey").append(r.nextInt(12) == 0 ? " ;" : ";");
        }
        return s.toString();
    }

    private String tail() {
        StringBuilder s = new StringBuilder();
        for (int i = r.nextInt(5) == 0 ? r.nextInt(24) : 0; i > 0; i--) {
            s.append(r.nextBoolean() ? " or " : " and ").append(r.nextInt(3) == 0 ? "won" : "leads");
        }
        return s.toString();
    }

    private String sentence(int depth) {
        int what = r.nextInt(depth > 10 ? 5 : 12);
        switch (what) {
            case 0:
                return "leads";
            case 1:
                return r.nextBoolean() ? "won" : "turned";
            case 2:
                return "has c" + (char) ('a' + r.nextInt(4));
            case 3, 4, 5:
                return new String[] {"score", "start", "needs", "number"}[r.nextInt(4)] + "<=>".charAt(r.nextInt(3))
                    + r.nextInt(r.nextInt(4) == 0 ? 20 : 5);
            case 6:
                return "not " + sentence(depth + 1);
            case 7, 8:
                return "(" + sentence(depth + 1) + ")";
            default:
                return sentence(depth + 1) + (what == 9 ? " or " : " and ") + sentence(depth + 1);
        }
    }

    private String claim() {
        StringBuilder s = new StringBuilder();
        int many = r.nextInt(6) == 0 ? r.nextInt(5) : x.count(2);
        for (int p = 0; p < many; p++) {
            int c = r.nextInt(4);
            boolean near = p < x.count(2) && c < x.count(0) && r.nextInt(8) > 0;
            s.append((char) (near ? x.player(p, 1) + x.colour(c, 0) * x.colour(c, 3) : r.nextInt(4) == 0 ? 255 : r.nextInt(9)));
        }
        calls += 20;
        return s.toString();
    }

    /** Often the text itself; else other by a sign, a token or a line, cut, or with blanks up to the most bytes. */
    private String bent(String text, int most) {
        int at = r.nextInt(text.length() + 1);
        int to = Math.min(text.length(), at + 1 + r.nextInt(4));
        String word = WORDS[r.nextInt(WORDS.length)];
        switch (r.nextInt(20)) {
            case 0:
                return text.substring(0, at);
            case 1:
                return text.substring(0, at) + text.substring(to);
            case 2:
                return text.substring(0, at) + word + text.substring(at);
            case 3:
                return text.substring(0, at) + " " + word + " " + text.substring(to);
            case 4:
                return other(text, "[0-9]+", String.valueOf(r.nextInt(r.nextBoolean() ? 16 : 120)));
            case 5:
                return other(text, "[cpl][a-d]", "cpl".charAt(r.nextInt(3)) + "" + (char) ('a' + r.nextInt(4)));
            case 6:
                return other(text, "[a-z]+", word);
            case 7:
                return again(text);
            case 8:
                return " ".repeat(Math.max(0, most + r.nextInt(9) - 4 - at)) + text;
            case 9:
                return text.substring(0, at) + "\n".repeat(Math.max(0, most + r.nextInt(3) - text.length())) + text.substring(at);
            case 10:
                return text + text.substring(at);
            case 11:
                return text.replace(" ", "\n ").replace("; ", ";");
            default:
                return text;
        }
    }

    /** One of the places like this becomes that. */
    private String other(String text, String like, String that) {
        List<int[]> places = new ArrayList<>();
        Matcher m = Pattern.compile("\\b(" + like + ")\\b").matcher(text);
        while (m.find()) {
            places.add(new int[] {m.start(), m.end()});
        }
        if (places.isEmpty()) {
            return text;
        }
        int[] place = places.get(r.nextInt(places.size()));
        return text.substring(0, place[0]) + that + text.substring(place[1]);
    }

    /** One of the lines comes once more, with a new name if it tells one, or stands elsewhere. */
    private String again(String text) {
        List<String> lines = new ArrayList<>(Arrays.asList(text.split("(?<=;)")));
        int from = r.nextInt(lines.size());
        String line = r.nextInt(3) == 0 ? lines.remove(from) : lines.get(from);
        lines.add(r.nextInt(lines.size() + 1), r.nextBoolean() ? line : line.replaceFirst(" [cpl][a-d]", " new"));
        return String.join("", lines);
    }

    private void read(String text, String name, Object... numbers) throws ReflectiveOperationException {
        call("end", 0);
        String cut = text.substring(0, Math.min(text.length(), 940));
        for (int i = 0; i < cut.length(); i += 20) {
            call("feed", four(cut, i), four(cut, i + 4), four(cut, i + 8), four(cut, i + 12), four(cut, i + 16));
        }
        call("end", cut.length());
        done.add(cut);
        call(name, numbers);
        call("fault");
    }

    private static int four(String text, int at) {
        int number = 0;
        for (int i = at; i < at + 4; i++) {
            number = number << 8 | (i < text.length() ? text.charAt(i) & 255 : 0);
        }
        return number;
    }

    private void call(String name, Object... numbers) throws ReflectiveOperationException {
        Class<?>[] types = new Class<?>[0];
        for (Method m : RedWhite.class.getDeclaredMethods()) {
            if (m.getName().equals(name)) {
                types = m.getParameterTypes();
            }
        }
        Object[] told = new Object[types.length];
        for (int i = 0; i < types.length; i++) {
            told[i] = i < numbers.length && numbers[i] instanceof Integer n ? n : Integer.valueOf(r.nextInt(2));
        }
        calls++;
        Object got = answer(RedWhite.class.getDeclaredMethod(name, types), x, told);
        Object want = answer(Plain.class.getDeclaredMethod(name, types), y, told);
        String call = name + Arrays.toString(told);
        done.add(call);
        boolean other = !got.equals(want);
        unlike |= other;
        t.due(other ? String.join("\n", done) + "\n" + got + ", plainly " + want + ": unlike" : call, other, false);
    }

    private static Object answer(Method m, Object on, Object[] numbers) throws IllegalAccessException {
        try {
            return m.invoke(on, numbers);
        } catch (InvocationTargetException e) {
            if (e.getCause() instanceof NoSuchElementException) {
                return "refused";
            }
            throw new IllegalStateException(m.getName() + Arrays.toString(numbers), e.getCause());
        }
    }
}
