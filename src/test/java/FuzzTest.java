import java.lang.reflect.InvocationTargetException;
import java.lang.reflect.Method;
import java.util.Arrays;
import java.util.Comparator;
import java.util.NoSuchElementException;
import java.util.Random;

/**
 * Any calls with any numbers: nothing but what the document names is thrown, and a second object
 * that does not see the calls that threw answers alike.
 */
final class FuzzTest {
    private static final int[] NUMBERS = {-1, 0, 1, 2, 3, 0, 1, 0, 4, 12, 13, -2, 60, Integer.MIN_VALUE, Integer.MAX_VALUE};
    private static final String[] WORDS = {"colour", "ends", "land", "player", "goal", "cars", "change", "takes", "turns",
        "comes", "grey", "or", "and", "not", "leads", "won", "has", "turned", "score", "start", "needs", "number",
        ";", ";", ";", "<", "=", ">", "(", ")", "ca", "cb", "la", "lb", "pa", "pb", "1", "2", "12", "0", "99", "100", "abcdefgh", "#"};

    public static void main(String[] args) throws IllegalAccessException {
        Checks t = new Checks();
        Method[] calls = Arrays.stream(RedWhite.class.getDeclaredMethods())
            .filter(m -> java.lang.reflect.Modifier.isPublic(m.getModifiers()))
            .sorted(Comparator.comparing(Method::getName)).toArray(Method[]::new);
        Random r = new Random(42);
        for (int i = 0; i < 400; i++) {
            run(t, r, calls);
        }
        t.finish();
    }

    private static void run(Checks t, Random r, Method[] calls) throws IllegalAccessException {
        RedWhite x = new RedWhite();
        RedWhite y = new RedWhite();
        for (int i = 0; i < 200; i++) {
            if (r.nextInt(12) == 0) {
                String text = text(r);
                Checks.tell(x, text);
                Checks.tell(y, text);
                Method reads = calls(calls, r.nextInt(3) == 0 ? "road" : r.nextBoolean() ? "log" : "sentence");
                call(t, x, y, reads, reads.getName().equals("log") ? new Object[] {r.nextInt(2)} : new Object[0]);
            }
            Method m = calls[r.nextInt(calls.length)];
            Object[] numbers = new Object[m.getParameterCount()];
            for (int k = 0; k < numbers.length; k++) {
                numbers[k] = NUMBERS[r.nextInt(r.nextInt(4) == 0 ? NUMBERS.length : 5)];
            }
            call(t, x, y, m, numbers);
        }
    }

    private static Method calls(Method[] calls, String name) {
        return Arrays.stream(calls).filter(m -> m.getName().equals(name)).findFirst().orElseThrow();
    }

    private static void call(Checks t, RedWhite x, RedWhite y, Method m, Object[] numbers) throws IllegalAccessException {
        try {
            Object got = m.invoke(x, numbers);
            try {
                Object like = m.invoke(y, numbers);
                t.due(m.getName() + Arrays.toString(numbers) + " " + got + " " + like, got.equals(like), true);
            } catch (InvocationTargetException e) {
                t.due(m.getName() + Arrays.toString(numbers) + " threw for the second only", true, false);
            }
        } catch (InvocationTargetException e) {
            boolean named = e.getCause() instanceof NoSuchElementException
                && Arrays.asList(m.getExceptionTypes()).contains(NoSuchElementException.class);
            t.due(m.getName() + Arrays.toString(numbers) + " threw " + e.getCause(), named, true);
        }
    }

    private static String text(Random r) {
        if (r.nextInt(3) > 0) {
            String good = Oracle.random(r, 12).text();
            return r.nextInt(8) == 0 ? good.substring(0, r.nextInt(good.length() + 1)) : good;
        }
        StringBuilder s = new StringBuilder();
        for (int i = r.nextInt(30); i > 0; i--) {
            s.append(WORDS[r.nextInt(WORDS.length)]).append(r.nextInt(5) == 0 ? "" : " ");
        }
        return s.toString();
    }
}
