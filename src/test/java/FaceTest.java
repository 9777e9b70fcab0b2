import java.io.IOException;
import java.lang.reflect.Constructor;
import java.lang.reflect.Field;
import java.lang.reflect.Method;
import java.lang.reflect.Modifier;
import java.nio.file.Files;
import java.nio.file.Path;
import java.util.ArrayList;
import java.util.HashSet;
import java.util.List;
import java.util.Set;
import java.util.TreeSet;

/** The public face, as the document writes it, and nothing beside it. */
public final class FaceTest {
    private static final String I = "IndexOutOfBoundsException";
    private static final String A = "IllegalArgumentException";
    private static final String S = "IllegalStateException";
    private static final String N = "NoSuchElementException";

    private FaceTest() {
    }

    private static String line(String result, String name, int numbers, String... thrown) {
        return result + " " + name + " " + numbers + " " + List.of(thrown);
    }

    private static Set<String> dueMethods() {
        return new TreeSet<>(List.of(
                line("long", "deposit", 2, I, A, S),
                line("long", "withdraw", 2, I, A, S),
                line("int", "grant", 3, I, A, S),
                line("int", "order", 7, I, A, S),
                line("int", "cancel", 2, I, A, S),
                line("int", "reduce", 3, I, A, S),
                line("void", "until", 3, I, A, S),
                line("int", "pass", 1, A),
                line("int", "best", 2, I, A, N),
                line("int", "depth", 3, I, A),
                line("int", "level", 4, I, A),
                line("int", "about", 2, I, A),
                line("int", "ahead", 1, I, N),
                line("long", "cash", 2, I, A),
                line("int", "shares", 3, I, A),
                line("int", "count", 1, A),
                line("int", "trade", 2, I, A),
                line("int", "symbol", 2, I, A),
                line("int", "busiest", 2, I)));
    }

    private static Set<String> foundMethods() {
        Set<String> found = new TreeSet<>();
        for (Method m : TradeHall.class.getDeclaredMethods()) {
            if (Modifier.isPrivate(m.getModifiers())) {
                continue;
            }
            List<String> thrown = new ArrayList<>();
            for (Class<?> e : m.getExceptionTypes()) {
                thrown.add(e.getSimpleName());
            }
            for (Class<?> p : m.getParameterTypes()) {
                Check.same("a parameter of " + m.getName(), p.getName(), "int");
            }
            String kept = Modifier.isPublic(m.getModifiers()) && !Modifier.isStatic(m.getModifiers())
                    ? "" : "not as said: ";
            found.add(kept + m.getReturnType() + " " + m.getName() + " " + m.getParameterCount()
                    + " " + thrown);
        }
        return found;
    }

    private static void fields() {
        Set<String> found = new TreeSet<>();
        for (Field f : TradeHall.class.getDeclaredFields()) {
            if (!Modifier.isPrivate(f.getModifiers())) {
                found.add(Modifier.toString(f.getModifiers()) + " " + f.getType() + " " + f.getName());
            }
        }
        Check.same("fields", found.toString(), "[public static final int NONE]");
        Check.due("NONE", -1, () -> TradeHall.NONE);
    }

    private static void privateNames() {
        Set<String> open = new HashSet<>();
        List<String> clashing = new ArrayList<>();
        for (Method m : TradeHall.class.getDeclaredMethods()) {
            if (!Modifier.isPrivate(m.getModifiers())) {
                open.add(m.getName());
            }
        }
        List<Class<?>> classes = new ArrayList<>(List.of(TradeHall.class.getDeclaredClasses()));
        classes.add(TradeHall.class);
        for (Class<?> c : classes) {
            for (Method m : c.getDeclaredMethods()) {
                if (open.contains(m.getName()) && !Modifier.isPublic(m.getModifiers())) {
                    clashing.add(m.getName());
                }
            }
        }
        Check.same("private methods with a public name", clashing.toString(), "[]");
    }

    /** Each line of the document's face stands in the program, but for line breaks. */
    private static void linesOfTheDocument() throws IOException {
        String document = Files.readString(Path.of("../shared/DOC.md"));
        String program = Files.readString(Path.of("src/main/java/TradeHall.java"))
                .replaceAll("\\s+", " ");
        int start = document.indexOf("```java\n") + 8;
        String face = document.substring(start, document.indexOf("```", start));
        int lines = 0;
        for (String line : face.lines().toList()) {
            String due = line.strip();
            if (due.startsWith("public")) {
                lines++;
                boolean stands = program.contains(due)
                        || program.contains(due.replaceAll(";$", " {"));
                Check.same("face", stands ? due : "not so", due);
            }
        }
        int found = lines;
        Check.due("lines of the face", 22, () -> found);
    }

    public static void main(String[] args) throws IOException {
        linesOfTheDocument();
        Check.same("class", Modifier.toString(TradeHall.class.getModifiers()), "public final");
        Constructor<?>[] made = TradeHall.class.getDeclaredConstructors();
        Check.due("constructors", 1, () -> made.length);
        Check.same("constructor", made[0].toString(), "public TradeHall()");
        Check.same("methods", foundMethods().toString(), dueMethods().toString());
        fields();
        privateNames();
        Check.end("FaceTest");
    }
}
