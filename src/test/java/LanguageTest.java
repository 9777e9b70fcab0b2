import java.io.IOException;
import java.lang.reflect.Method;
import java.lang.reflect.Modifier;
import java.nio.file.Files;
import java.nio.file.Path;
import java.util.ArrayList;
import java.util.HashMap;
import java.util.List;
import java.util.Map;
import java.util.regex.Matcher;
import java.util.regex.Pattern;
import java.util.stream.Stream;

/** Those rules of LANGUAGE.md that the program's text shows by itself. */
public final class LanguageTest {
    private static final Path PROGRAM = Path.of("src/main/java/TradeHall.java");
    private static final List<String> FORBIDDEN = List.of(
            "\\btry\\b", "\\bcatch\\b", "\\bfinally\\b", "\\bsynchronized\\b", "\\bassert\\b",
            "->", "::", "Exact\\b", "\\bpackage\\b", "\\bprotected\\b", "System\\.(?!arraycopy)",
            "\\bdouble\\b", "\\bfloat\\b", "\\[\\]\\[\\]", "\\bstatic \\{");

    private static final Pattern METHOD =
            Pattern.compile("(?m)^( {4}| {8})(?:[\\w\\[\\]]+ )+(\\w+)\\(([^)]*)\\)[^;{=]*\\{\\n");
    private static final int MOST_DEEP = 8;

    /** The bodies of the program's methods by their names. */
    private final Map<String, String> bodies = new HashMap<>();
    private final Map<String, Integer> depths = new HashMap<>();

    private LanguageTest(String text) {
        Matcher m = METHOD.matcher(text);
        while (m.find()) {
            int end = text.indexOf("\n" + m.group(1) + "}\n", m.end() - 1);
            String body = text.substring(m.end(), Math.max(m.end(), end));
            Check.same("methods of one name", "" + bodies.put(m.group(2), body), "null");
            int numbers = m.group(3).isEmpty() ? 0 : m.group(3).split(",").length;
            Check.due("numbers of " + m.group(2), Math.min(numbers, 7), () -> numbers);
        }
    }

    /** How many calls stand open at most when a method runs; far too many, if it comes back to itself. */
    private int depthOf(String name, List<String> open) {
        if (open.contains(name)) {
            return 1000;
        }
        if (!depths.containsKey(name)) {
            List<String> now = new ArrayList<>(open);
            now.add(name);
            int deepest = 0;
            Matcher called = Pattern.compile("\\b(\\w+)\\(").matcher(bodies.get(name));
            while (called.find()) {
                if (bodies.containsKey(called.group(1))) {
                    deepest = Math.max(deepest, depthOf(called.group(1), now));
                }
            }
            depths.put(name, deepest + 1);
        }
        return depths.get(name);
    }

    private void callDepths() {
        for (Class<?> c : classes()) {
            for (Method m : c.getDeclaredMethods()) {
                Check.same("found " + m.getName(), "" + bodies.containsKey(m.getName()), "true");
            }
        }
        for (String name : bodies.keySet()) {
            int depth = depthOf(name, List.of());
            Check.due("calls open in " + name, Math.min(depth, MOST_DEEP), () -> depth);
        }
    }

    /** Only what a constructor makes and what is thrown is new, so no call makes anything else. */
    private static void madeObjects(List<String> lines) {
        for (String line : lines) {
            if (line.matches(".*\\bnew\\b.*")) {
                boolean known = line.contains("throw new ")
                        || line.matches(" {8}final \\w+\\[\\] \\w+ = new \\w+\\[.*")
                        || line.matches(" {8}(ledger|orders|books|tape) = new \\w+\\(\\w*\\);");
                Check.same("made", known ? "" : line, "");
            }
        }
    }

    private static List<Class<?>> classes() {
        List<Class<?>> all = new ArrayList<>(List.of(TradeHall.class.getDeclaredClasses()));
        all.add(TradeHall.class);
        return all;
    }

    private static void sizes(String text) {
        long classes = found("\\bclass\\b", text);
        Check.due("classes", Math.min(classes, 12), () -> classes);
        for (Class<?> c : classes()) {
            long fields = Stream.of(c.getDeclaredFields())
                    .filter(f -> !Modifier.isStatic(f.getModifiers())).count();
            Check.due("fields of " + c.getName(), Math.min(fields, 20), () -> fields);
        }
    }

    private static long found(String pattern, String text) {
        return Pattern.compile(pattern).matcher(text).results().count();
    }

    private static void imports(List<String> lines) {
        String imports = lines.stream().filter(l -> l.startsWith("import")).toList().toString();
        Check.same("imports", imports, "[import java.util.NoSuchElementException;]");
    }

    private static void exceptions(String text) {
        long all = found("\\bthrow\\b", text);
        long known = found("throw new (IndexOutOfBounds|IllegalArgument|IllegalState|NoSuchElement)"
                + "Exception\\(\"[^\"]*\"\\);", text);
        Check.due("throws of the rule's form", all, () -> known);
    }

    /** A method begins at a line that ends in a brace behind a closing one, one or two levels in. */
    private static void methodLengths(List<String> lines) {
        Pattern start = Pattern.compile("^( {4}| {8})(?! |if|for|while|switch|\\})[^=]*\\(.*");
        for (int i = 0; i < lines.size(); i++) {
            Matcher m = start.matcher(lines.get(i));
            if (!m.matches() || lines.get(i).endsWith(";")) {
                continue;
            }
            int end = i;
            while (end < lines.size() && !lines.get(end).equals(m.group(1) + "}")) {
                end++;
            }
            int length = end - i + 1;
            Check.due("length of line " + (i + 1), Math.min(length, 60), () -> length);
        }
    }

    public static void main(String[] args) throws IOException {
        String text = Files.readString(PROGRAM).replaceAll("(?s)/\\*.*?\\*/|//[^\\n]*", "");
        for (String pattern : FORBIDDEN) {
            Check.due("uses of " + pattern, 0, () -> found(pattern, text));
        }
        List<String> lines = text.lines().toList();
        imports(lines);
        exceptions(text);
        methodLengths(lines);
        madeObjects(lines);
        sizes(text);
        new LanguageTest(text).callDepths();
        Check.end("LanguageTest");
    }
}
