import java.io.IOException;
import java.lang.reflect.Field;
import java.lang.reflect.Method;
import java.lang.reflect.Modifier;
import java.nio.file.Files;
import java.nio.file.Path;
import java.util.HashSet;
import java.util.List;
import java.util.Set;
import java.util.TreeSet;
import java.util.regex.Pattern;

/** The public face of the document, and those rules of LANGUAGE.md that a look at the class can tell. */
final class FaceTest {
    private static final Set<String> METHODS = new TreeSet<>(List.of(
        "ring/1", "stand/2", "gap/3", "shape/1", "rule/5", "whom/2", "drop/1", "of/2", "does/2", "step/1",
        "meets/2", "first/1", "blind/1", "used/1", "all/3", "image/1", "restore/1", "count/1"));
    private static final Set<String> CONSTANTS = new TreeSet<>(List.of(
        "UNKNOWN", "OUTSIDE", "STATE", "FULL", "NONE"));
    private static final String[] NOT_THERE = {
        "\\bthrow\\b", "\\bthrows\\b", "\\btry\\b", "\\bcatch\\b", "\\bsynchronized\\b", "\\bassert\\b",
        "\\bimport\\b", "\\bpackage\\b", "->", "::", "Exact\\b", "\\bSystem\\.(?!arraycopy)", "@Override"
    };

    private FaceTest() {
    }

    public static void main(String[] args) throws IOException {
        face();
        constants();
        nested();
        text();
        Check.end();
    }

    private static void face() {
        Class<?> c = RingMeets.class;
        Check.holds("public final", Modifier.isPublic(c.getModifiers()) && Modifier.isFinal(c.getModifiers()));
        Check.due("one constructor", c.getDeclaredConstructors().length, 1);
        Check.due("public constructors", c.getConstructors().length, 1);
        Check.due("without arguments", c.getConstructors()[0].getParameterCount(), 0);
        Set<String> found = new TreeSet<>();
        for (Method m : c.getDeclaredMethods()) {
            if (Modifier.isPrivate(m.getModifiers())) {
                continue;
            }
            Check.holds(m + " is public, of the object, and tells an int", Modifier.isPublic(m.getModifiers())
                    && !Modifier.isStatic(m.getModifiers()) && m.getReturnType() == int.class);
            for (Class<?> p : m.getParameterTypes()) {
                Check.holds(m + " takes ints", p == int.class);
            }
            found.add(m.getName() + "/" + m.getParameterCount());
        }
        Check.holds("the methods are the document's: " + found, found.equals(METHODS));
    }

    private static void constants() {
        Check.due("UNKNOWN", RingMeets.UNKNOWN, -1);
        Check.due("OUTSIDE", RingMeets.OUTSIDE, -2);
        Check.due("STATE", RingMeets.STATE, -3);
        Check.due("FULL", RingMeets.FULL, -4);
        Check.due("NONE", RingMeets.NONE, -6);
        Set<String> found = new TreeSet<>();
        for (Field f : RingMeets.class.getDeclaredFields()) {
            if (!Modifier.isPrivate(f.getModifiers())) {
                found.add(f.getName());
            }
            Check.holds(f + ": static ones are final",
                    !Modifier.isStatic(f.getModifiers()) || Modifier.isFinal(f.getModifiers()));
        }
        Check.holds("the constants are the document's: " + found, found.equals(CONSTANTS));
    }

    private static void nested() {
        Set<String> names = new HashSet<>();
        for (String m : METHODS) {
            names.add(m.substring(0, m.indexOf('/')));
        }
        Class<?>[] inside = RingMeets.class.getDeclaredClasses();
        Check.holds("at most twelve classes", inside.length < 12);
        for (Class<?> c : inside) {
            Check.holds(c + " is static", Modifier.isStatic(c.getModifiers()));
            Check.holds(c + " is not public", !Modifier.isPublic(c.getModifiers()));
            int fields = 0;
            for (Field f : c.getDeclaredFields()) {
                fields += Modifier.isStatic(f.getModifiers()) ? 0 : 1;
            }
            Check.holds(c + " has some twenty fields at most: " + fields, fields <= 20);
            for (Method m : c.getDeclaredMethods()) {
                Check.holds(m + " does not bear a public name", !names.contains(m.getName()));
                Check.holds(m + " takes seven at most", m.getParameterCount() <= 7);
            }
        }
    }

    private static void text() throws IOException {
        String text = Files.readString(Path.of("src/main/java/RingMeets.java"));
        String code = text.replaceAll("(?s)/\\*.*?\\*/", "").replaceAll("//.*", "");
        for (String word : NOT_THERE) {
            Check.holds("no " + word, !Pattern.compile(word).matcher(code).find());
        }
        Check.holds("plain signs alone", text.chars().allMatch(c -> c < 128));
    }
}
