import java.io.IOException;
import java.lang.reflect.Method;
import java.lang.reflect.Modifier;
import java.nio.file.Files;
import java.nio.file.Path;
import java.util.Set;
import java.util.TreeSet;
import java.util.regex.Matcher;
import java.util.regex.Pattern;

/** The example of README.md: every call answers what is written behind it, and every method is shown. */
final class ReadmeTest {
    private static final Pattern CALL = Pattern.compile("x\\.(\\w+)\\((.*?)\\);\\s*// (-?\\d+): .*");

    private ReadmeTest() {
    }

    public static void main(String[] args) throws IOException, ReflectiveOperationException {
        String text = Files.readString(Path.of("README.md"));
        RingMeets x = new RingMeets();
        Set<String> shown = new TreeSet<>();
        for (String line : text.lines().filter(line -> line.startsWith("x.")).toList()) {
            Matcher call = CALL.matcher(line);
            Check.holds("a call with its answer: " + line, call.matches());
            if (call.matches()) {
                int got = answer(x, call.group(1), call.group(2).split(", "));
                Check.due(line, got, Integer.parseInt(call.group(3)));
                shown.add(call.group(1));
            }
        }
        for (Method m : RingMeets.class.getDeclaredMethods()) {
            if (Modifier.isPublic(m.getModifiers())) {
                Check.holds(m.getName() + " is shown", shown.contains(m.getName()));
                Check.holds(m.getName() + " is in the table", text.contains("`" + m.getName() + "("));
            }
        }
        Check.end();
    }

    private static int answer(RingMeets x, String name, String[] numbers) throws ReflectiveOperationException {
        Class<?>[] types = new Class<?>[numbers.length];
        Object[] values = new Object[numbers.length];
        for (int i = 0; i < numbers.length; i++) {
            types[i] = int.class;
            values[i] = numbers[i].startsWith("0b")
                    ? Integer.parseInt(numbers[i].substring(2), 2) : Integer.parseInt(numbers[i]);
        }
        return (Integer) RingMeets.class.getMethod(name, types).invoke(x, values);
    }
}
