import java.io.IOException;
import java.nio.file.Files;
import java.nio.file.Path;
import java.util.List;
import java.util.regex.Matcher;
import java.util.regex.Pattern;

/** Those rules of LANGUAGE.md that the program's text shows by itself. */
public final class LanguageTest {
    private static final Path PROGRAM = Path.of("src/main/java/TradeHall.java");
    private static final List<String> FORBIDDEN = List.of(
            "\\btry\\b", "\\bcatch\\b", "\\bfinally\\b", "\\bsynchronized\\b", "\\bassert\\b",
            "->", "::", "Exact\\b", "\\bpackage\\b", "\\bprotected\\b", "System\\.(?!arraycopy)",
            "\\bdouble\\b", "\\bfloat\\b", "\\[\\]\\[\\]", "\\bstatic \\{");

    private LanguageTest() {
    }

    private static long found(String pattern, String text) {
        return Pattern.compile(pattern).matcher(text).results().count();
    }

    private static void imports(List<String> lines) {
        String imports = lines.stream().filter(l -> l.startsWith("import")).toList().toString();
        Check.same("imports", imports, "[import java.util.NoSuchElementException;]");
    }

    private static void exceptions(String text) {
        long all = found("\\bthrow\\b", text);
        long known = found("throw new (IndexOutOfBounds|IllegalArgument|IllegalState|NoSuchElement)"
                + "Exception\\(\"[^\"]*\"\\);", text);
        Check.due("throws of the rule's form", all, () -> known);
    }

    /** A method begins at a line that ends in a brace behind a closing one, one or two levels in. */
    private static void methodLengths(List<String> lines) {
        Pattern start = Pattern.compile("^( {4}| {8})(?! |if|for|while|switch|\\})[^=]*\\(.*");
        for (int i = 0; i < lines.size(); i++) {
            Matcher m = start.matcher(lines.get(i));
            if (!m.matches() || lines.get(i).endsWith(";")) {
                continue;
            }
            int end = i;
            while (end < lines.size() && !lines.get(end).equals(m.group(1) + "}")) {
                end++;
            }
            int length = end - i + 1;
            Check.due("length of line " + (i + 1), Math.min(length, 60), () -> length);
        }
    }

    public static void main(String[] args) throws IOException {
        String text = Files.readString(PROGRAM).replaceAll("(?s)/\\*.*?\\*/|//[^\\n]*", "");
        for (String pattern : FORBIDDEN) {
            Check.due("uses of " + pattern, 0, () -> found(pattern, text));
        }
        List<String> lines = text.lines().toList();
        imports(lines);
        exceptions(text);
        methodLengths(lines);
        Check.end("LanguageTest");
    }
}
