import java.io.IOException;
import java.lang.reflect.Constructor;
import java.lang.reflect.Field;
import java.lang.reflect.Method;
import java.lang.reflect.Modifier;
import java.nio.file.Files;
import java.nio.file.Path;
import java.util.Arrays;
import java.util.Set;
import java.util.TreeSet;

/** The document's face, and rules of the language that a text or a class can show. */
final class FaceTest {
    private static final String[] FACE = {
        "int feed(int,int,int,int,int)", "boolean end(int)", "int road()", "int fault()", "int colour(int,int)",
        "int land(int,int)", "int player(int,int)", "int now(int)", "int take(int,int)", "int turn(int,int)",
        "int come(int)", "int undo()", "long likely(int,int)", "long nobody(int)", "long where(int,int)",
        "long next(int,int)", "long left(int)", "long over(int,int)", "int favourite()", "int chosen(int)",
        "long chance(int,int)", "int which(int)", "int fair(int)", "int goal()", "long right(int,int)",
        "int best(int)", "long also(int,int,int)", "int scores()", "int took(int)", "int car(int)", "int row()",
        "long luck(int)", "int drawn(int)", "int wins(int,int,int)", "int log(int)", "int logged(int)",
        "int sentence()", "int said(int)", "boolean image(int)", "boolean restore(int)", "int count(int)"};

    public static void main(String[] args) throws IOException {
        Checks t = new Checks();
        face(t);
        inside(t);
        text(t);
        t.finish();
    }

    private static void face(Checks t) {
        Set<String> open = new TreeSet<>();
        for (Method m : RedWhite.class.getDeclaredMethods()) {
            if (Modifier.isPublic(m.getModifiers())) {
                StringBuilder s = new StringBuilder(m.getReturnType() + " " + m.getName() + "(");
                for (Class<?> c : m.getParameterTypes()) {
                    s.append(s.charAt(s.length() - 1) == '(' ? "" : ",").append(c);
                }
                open.add(s.append(")").toString());
            } else {
                t.due(m + " is private", Modifier.isPrivate(m.getModifiers()), true);
            }
        }
        Set<String> told = new TreeSet<>(Arrays.asList(FACE));
        t.due("the face is " + open, open.equals(told), true);
        for (Field f : RedWhite.class.getDeclaredFields()) {
            t.due(f + " is private or NONE", Modifier.isPrivate(f.getModifiers()) || f.getName().equals("NONE"), true);
        }
        Constructor<?>[] made = RedWhite.class.getDeclaredConstructors();
        t.due("one constructor", made.length, 1);
        t.due("it is public", Modifier.isPublic(made[0].getModifiers()), true);
        t.due("the class is final", Modifier.isFinal(RedWhite.class.getModifiers()), true);
    }

    private static void inside(Checks t) {
        Set<String> names = new TreeSet<>();
        for (String call : FACE) {
            names.add(call.substring(call.indexOf(' ') + 1, call.indexOf('(')));
        }
        Class<?>[] classes = RedWhite.class.getDeclaredClasses();
        t.due("some twelve classes", classes.length <= 12, true);
        for (Class<?> c : classes) {
            t.due(c + " is static", Modifier.isStatic(c.getModifiers()), true);
            int fields = 0;
            for (Field f : c.getDeclaredFields()) {
                boolean fixed = Modifier.isStatic(f.getModifiers());
                t.due(f + " is final if static", !fixed || Modifier.isFinal(f.getModifiers()), true);
                fields += fixed ? 0 : 1;
            }
            t.due(c + " has some twenty fields", fields <= 20, true);
            for (Method m : c.getDeclaredMethods()) {
                t.due(m + " has a name of its own", names.contains(m.getName()), false);
                t.due(m + " has seven parameters at most", m.getParameterCount() <= 7, true);
            }
        }
    }

    private static void text(Checks t) throws IOException {
        String source = Files.readString(Path.of("src/main/java/RedWhite.java"));
        String[] never = {"->", "::", "finally", "synchronized", "assert ", "Exact", "catch", "package ", "static {",
            "System.out", "System.nano", "Math.random", "hashCode", "toString", "getMessage", "double", "float"};
        for (String word : never) {
            t.due("'" + word + "' in the class", source.contains(word), false);
        }
        for (String line : source.split("\n")) {
            if (line.startsWith("import ")) {
                t.due(line, line.equals("import java.util.Arrays;")
                    || line.equals("import java.util.NoSuchElementException;"), true);
            }
        }
    }
}
