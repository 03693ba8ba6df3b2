import java.io.IOException;
import java.lang.reflect.Method;
import java.lang.reflect.Modifier;
import java.nio.file.Files;
import java.nio.file.Path;
import java.util.List;
import java.util.Set;
import java.util.TreeSet;
import java.util.regex.Matcher;
import java.util.regex.Pattern;

/** The lines of README.md answer what stands behind them, and show every call. */
public final class ReadmeTest {
    private static final Checks C = new Checks();
    private static final Pattern CALL = Pattern.compile("boat\\.(\\w+)\\((.*)\\); +// (-?\\d+)(: .*)");
    private static final Pattern FEED = Pattern.compile("feed\\(boat, \"(.*)\"\\);");

    public static void main(String[] args) throws IOException, ReflectiveOperationException {
        DriedOut boat = new DriedOut();
        Set<String> shown = new TreeSet<>(List.of("feed"));
        for (String line : Files.readAllLines(Path.of("README.md"))) {
            Matcher call = CALL.matcher(line), feed = FEED.matcher(line);
            if (call.matches()) {
                shown.add(call.group(1));
                C.due("README.md: " + line, answer(boat, call.group(1), call.group(2)), Long.parseLong(call.group(3)));
            } else if (feed.matches()) {
                Boats.feed(boat, feed.group(1));
            } else if (line.startsWith("boat.")) {
                C.due("README.md: a call whose answer is told: " + line, 0, 1);
            }
        }
        for (Method m : DriedOut.class.getDeclaredMethods()) {
            if (!Modifier.isPrivate(m.getModifiers())) {
                C.due("README.md shows " + m.getName(), shown.contains(m.getName()) ? 1 : 0, 1);
            }
        }
        C.end();
    }

    private static long answer(DriedOut boat, String name, String numbers) throws ReflectiveOperationException {
        String[] told = numbers.isEmpty() ? new String[0] : numbers.split(", ");
        for (Method m : DriedOut.class.getMethods()) {
            if (!m.getName().equals(name)) continue;
            Object[] values = new Object[told.length];
            for (int i = 0; i < told.length; i++) values[i] = Integer.valueOf(told[i]);
            return ((Number) m.invoke(boat, values)).longValue();
        }
        throw new NoSuchMethodException(name);
    }
}
