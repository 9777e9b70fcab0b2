import java.io.IOException;
import java.lang.reflect.InvocationTargetException;
import java.lang.reflect.Method;
import java.nio.file.Files;
import java.nio.file.Path;
import java.util.HashMap;
import java.util.List;
import java.util.Map;
import java.util.Set;
import java.util.TreeSet;
import java.util.regex.Matcher;
import java.util.regex.Pattern;

/** The example of README.md: each call answers what stands behind it, and no call is left out. */
public final class ReadmeTest {
    private static final Pattern LINE = Pattern.compile(
            "(?:int (\\w+) = )?hall\\.(\\w+)\\(([^)]*)\\); +// (throws \\w+|nothing|-?\\d+): .+");

    private final TradeHall hall = new TradeHall();
    private final Map<String, Integer> named = new HashMap<>();
    private final Set<String> used = new TreeSet<>();

    private ReadmeTest() {
    }

    private static List<String> example() throws IOException {
        String text = Files.readString(Path.of("README.md"));
        int start = text.indexOf("```java\n") + 8;
        return text.substring(start, text.indexOf("```", start)).lines().toList();
    }

    private static Method called(String name) {
        for (Method m : TradeHall.class.getMethods()) {
            if (m.getDeclaringClass() == TradeHall.class && m.getName().equals(name)) {
                return m;
            }
        }
        throw new AssertionError("TradeHall has no " + name);
    }

    private Object[] numbers(String text) {
        String[] parts = text.split(", ");
        Object[] numbers = new Object[parts.length];
        for (int i = 0; i < parts.length; i++) {
            Integer known = named.get(parts[i]);
            numbers[i] = known != null ? known : Integer.valueOf(parts[i]);
        }
        return numbers;
    }

    private String answer(String name, String numbers) throws IllegalAccessException {
        try {
            Object answer = called(name).invoke(hall, numbers(numbers));
            return answer == null ? "nothing" : answer.toString();
        } catch (InvocationTargetException e) {
            return "throws " + e.getCause().getClass().getSimpleName();
        }
    }

    private void read(String line) throws IllegalAccessException {
        Matcher m = LINE.matcher(line);
        if (!m.matches()) {
            Check.same("README line", line, "a call with its answer");
            return;
        }
        String answer = answer(m.group(2), m.group(3));
        Check.same("README " + line, answer, m.group(4));
        used.add(m.group(2));
        if (m.group(1) != null) {
            named.put(m.group(1), Integer.valueOf(answer));
        }
    }

    private void allAreUsed() {
        Set<String> all = new TreeSet<>();
        for (Method m : TradeHall.class.getMethods()) {
            if (m.getDeclaringClass() == TradeHall.class) {
                all.add(m.getName());
            }
        }
        Check.same("calls in README", used.toString(), all.toString());
    }

    public static void main(String[] args) throws IOException, IllegalAccessException {
        List<String> lines = example();
        Check.same("first line", lines.get(0), "TradeHall hall = new TradeHall();");
        ReadmeTest test = new ReadmeTest();
        for (String line : lines.subList(1, lines.size())) {
            test.read(line);
        }
        test.allAreUsed();
        Check.end("ReadmeTest");
    }
}
