import java.lang.reflect.Field;
import java.lang.reflect.Method;
import java.lang.reflect.Modifier;
import java.nio.file.Files;
import java.nio.file.Path;
import java.util.Arrays;
import java.util.List;
import java.util.Set;
import java.util.TreeSet;
import java.util.regex.Pattern;

/** The document's face, and the rules of LANGUAGE.md that can be read off the class or its text. */
public final class LanguageTest {
    private static final Check t = new Check();
    private static final String FACE = "type(1) clear(0) window(0) pane(3) sheet(2) lays(3) takes(1) breaks(2) mends(2) moves(2) undo(0) "
        + "now(1) light(3) lit(3) when(3) mix(5) child(5) paint(1) hail(5) saw(4) forget(0) suspects(0) glasses(2) look(0) mark(3) "
        + "keep(1) back(1) count(1) trace(0)";
    private static final Pattern FORBIDDEN = Pattern.compile(
        "\\b(throw|try|catch|synchronized|assert|package|new Thread|Random)\\b|static \\{|->|::|Exact\\(|System\\.(?!arraycopy)");

    public static void main(String[] args) throws Exception {
        face();
        classesInside();
        text();
        t.end();
    }

    private static void face() {
        Set<String> shown = new TreeSet<>();
        for (Method m : PaneLight.class.getDeclaredMethods()) {
            if (Modifier.isPublic(m.getModifiers())) {
                shown.add(m.getName() + "(" + m.getParameterCount() + ")");
                boolean numbers = Arrays.stream(m.getParameterTypes()).allMatch(p -> p == int.class);
                Class<?> answer = m.getName().equals("trace") ? long.class : int.class;
                holds("types of " + m, numbers && m.getReturnType() == answer && !Modifier.isStatic(m.getModifiers()));
            } else {
                holds("private: " + m, Modifier.isPrivate(m.getModifiers()));
            }
        }
        holds("the face is " + shown, shown.equals(new TreeSet<>(List.of(FACE.split(" ")))));
        Set<String> constants = new TreeSet<>();
        for (Field f : PaneLight.class.getDeclaredFields()) {
            if (Modifier.isPublic(f.getModifiers())) {
                constants.add(f.getName());
            } else {
                holds("private: " + f, Modifier.isPrivate(f.getModifiers()));
            }
        }
        holds("constants are " + constants, constants.equals(Set.of("BAD", "STATE", "FULL", "NONE", "NO")));
        holds("public and final", PaneLight.class.getModifiers() == (Modifier.PUBLIC | Modifier.FINAL));
        holds("one constructor", PaneLight.class.getDeclaredConstructors().length == 1
            && Modifier.isPublic(PaneLight.class.getDeclaredConstructors()[0].getModifiers()));
    }

    private static void classesInside() {
        Class<?>[] inside = PaneLight.class.getDeclaredClasses();
        holds("twelve classes at most", inside.length < 12);
        sizes(PaneLight.class);
        for (Class<?> c : inside) {
            holds("static: " + c, Modifier.isStatic(c.getModifiers()) && !Modifier.isPublic(c.getModifiers()));
            sizes(c);
            for (Method m : c.getDeclaredMethods()) {
                holds("bears the name of a public one: " + m, !(" " + FACE).contains(" " + m.getName() + "("));
            }
        }
    }

    private static void sizes(Class<?> c) {
        int fields = 0;
        for (Field f : c.getDeclaredFields()) {
            boolean isStatic = Modifier.isStatic(f.getModifiers());
            fields += isStatic ? 0 : 1;
            holds("final: " + f, !isStatic || Modifier.isFinal(f.getModifiers()));
        }
        holds("twenty fields at most: " + c, fields <= 20);
        for (Method m : c.getDeclaredMethods()) {
            holds("seven parameters at most: " + m, m.getParameterCount() <= 7);
        }
    }

    private static void text() throws Exception {
        List<String> lines = Files.readAllLines(Path.of("src/main/java/PaneLight.java"));
        int begun = 0;
        for (int i = 0; i < lines.size(); i++) {
            String line = lines.get(i);
            String code = line.strip().startsWith("/**") ? "" : line.replaceAll("//.*", "");
            holds("line " + (i + 1) + ": " + line, !FORBIDDEN.matcher(code).find());
            holds("an import beside Arrays: " + line, !code.startsWith("import") || code.equals("import java.util.Arrays;"));
            holds("plain signs: " + line, line.chars().allMatch(c -> c >= 32 && c < 127));
            if (code.matches(" {4,8}\\w.*\\) \\{")) {
                begun = i;
            } else if (code.matches(" {4,8}\\}")) {
                holds("sixty lines at most, to line " + (i + 1), i - begun <= 60);
            }
        }
    }

    private static void holds(String what, boolean so) {
        t.due(what, so ? 1 : 0, 1);
    }
}
