import java.io.IOException;
import java.lang.reflect.InvocationTargetException;
import java.lang.reflect.Method;
import java.nio.file.Files;
import java.nio.file.Path;
import java.util.regex.Matcher;
import java.util.regex.Pattern;

/** README.md: its calls answer as it says, its method is the one here, and its way to run the tests is there. */
final class ReadmeTest {
    private static final Pattern TELLS = Pattern.compile("tell\\(x, \"(.*)\"\\);");
    private static final Pattern CALLS = Pattern.compile("x\\.(\\w+)\\((.*)\\); +// (-?\\d+|throws \\w+).*");

    public static void main(String[] args) throws IOException, IllegalAccessException {
        Checks t = new Checks();
        String page = Files.readString(Path.of("README.md"));
        String here = Files.readString(Path.of("src/test/java/ReadmeTest.java"));
        String method = page.substring(page.indexOf("static void tell"), page.indexOf("\n```\n\nA trip"));
        t.due("the method that tells a text", here.replace("\n    ", "\n").contains(method), true);
        t.due("the way to run the tests", page.contains("\n    .ci/run\n"), true);
        t.due("it can be run", Files.isExecutable(Path.of(".ci/run")), true);
        trip(t, page);
        everyCall(t, page);
        t.finish();
    }

    private static void trip(Checks t, String page) throws IllegalAccessException {
        RedWhite x = new RedWhite();
        int calls = 0;
        for (String line : page.split("\n")) {
            Matcher tells = TELLS.matcher(line);
            Matcher told = CALLS.matcher(line);
            if (tells.matches()) {
                tell(x, tells.group(1));
            } else if (told.matches()) {
                String got = answer(x, told.group(1), told.group(2));
                t.due(line + " answered " + got, got.equals(told.group(3)), true);
                calls++;
            }
        }
        t.due("calls that the page tells", calls, 29);
    }

    static void tell(RedWhite x, String text) {
        byte[] bytes = java.util.Arrays.copyOf(text.getBytes(), (text.length() + 19) / 20 * 20);
        java.nio.ByteBuffer b = java.nio.ByteBuffer.wrap(bytes);
        int length = x.count(6) + text.length();
        while (b.hasRemaining()) {
            x.feed(b.getInt(), b.getInt(), b.getInt(), b.getInt(), b.getInt());
        }
        x.end(length);
    }

    private static String answer(RedWhite x, String name, String numbers) throws IllegalAccessException {
        String[] parts = numbers.isEmpty() ? new String[0] : numbers.split(", ");
        Object[] told = new Object[parts.length];
        for (int i = 0; i < parts.length; i++) {
            told[i] = Integer.valueOf(parts[i]);
        }
        for (Method m : RedWhite.class.getDeclaredMethods()) {
            if (m.getName().equals(name) && m.getParameterCount() == told.length) {
                try {
                    return String.valueOf(m.invoke(x, told));
                } catch (InvocationTargetException e) {
                    return "throws " + e.getCause().getClass().getSimpleName();
                }
            }
        }
        return "there is no such call";
    }

    /** The page names every call of the face. */
    private static void everyCall(Checks t, String page) {
        for (Method m : RedWhite.class.getDeclaredMethods()) {
            if (java.lang.reflect.Modifier.isPublic(m.getModifiers())) {
                t.due("the page names " + m.getName(), page.contains("`" + m.getName() + "`"), true);
            }
        }
    }
}
