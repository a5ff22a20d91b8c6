import java.io.File;
import java.io.IOException;
import java.lang.reflect.Method;
import java.lang.reflect.Modifier;
import java.net.URL;
import java.net.URLClassLoader;
import java.nio.file.Files;
import java.nio.file.Path;
import java.util.ArrayList;
import java.util.Comparator;
import java.util.List;
import java.util.regex.Matcher;
import java.util.regex.Pattern;
import java.util.stream.Stream;
import javax.tools.ToolProvider;

/** What README.md shows of the use of the class answers as it says there, and its ways to run the tests work. */
public final class ReadmeTest {
    private static final Check t = new Check();
    /** A call at a row's start, and its answer behind it, with or without words: "p.undo();   // 4: what may be .." */
    private static final Pattern CALL = Pattern.compile("(p\\.\\w+\\((?:[^;']|'.')*\\));\\s*(?:// (-?\\d+|[A-Z]+)(?::.*)?)?");

    public static void main(String[] args) throws Exception {
        String readme = Files.readString(Path.of("README.md"));
        Path build = Files.createTempDirectory("readme");
        try {
            use(blocks(readme, "java"), build);
            commands(blocks(readme, "sh"), build);
        } finally {
            delete(build);
        }
        wholeFace(String.join("", blocks(readme, "java")));
        everyTest(readme);
        t.end();
    }

    private static List<String> blocks(String readme, String language) {
        List<String> found = new ArrayList<>();
        Matcher m = Pattern.compile("```" + language + "\n(.*?)```\n", Pattern.DOTALL).matcher(readme);
        while (m.find()) {
            found.add(m.group(1));
        }
        return found;
    }

    /** All blocks are one program; each call that begins a row has its answer behind it. */
    private static void use(List<String> blocks, Path build) throws Exception {
        StringBuilder program = new StringBuilder("public final class ReadmeUse {\n"
            + "public static void run(java.util.List<Long> got) {\n");
        List<String> calls = new ArrayList<>();
        List<Long> dues = new ArrayList<>();
        for (String row : String.join("", blocks).split("\n")) {
            Matcher m = CALL.matcher(row);
            if (!row.startsWith("p.")) {
                program.append(row).append('\n');
            } else if (m.matches() && m.group(2) != null) {
                program.append("got.add((long) ").append(m.group(1)).append(");\n");
                calls.add(m.group(1));
                dues.add(valueOf(m.group(2)));
            } else {
                holds("a call with its answer: " + row, false);
            }
        }
        List<Long> got = answers(program.append("}\n}\n").toString(), build);
        t.due("answers", got.size(), dues.size());
        for (int i = 0; i < Math.min(got.size(), dues.size()); i++) {
            t.due("README.md: " + calls.get(i), got.get(i), dues.get(i));
        }
    }

    private static List<Long> answers(String program, Path build) throws Exception {
        List<Long> got = new ArrayList<>();
        Path source = Files.writeString(build.resolve("ReadmeUse.java"), program);
        int refused = ToolProvider.getSystemJavaCompiler().run(null, null, null, "-d", build.toString(),
            "-cp", System.getProperty("java.class.path"), source.toString());
        t.due("compiling README.md's use", refused, 0);
        if (refused == 0) {
            try (URLClassLoader loader = new URLClassLoader(new URL[] {build.toUri().toURL()})) {
                loader.loadClass("ReadmeUse").getMethod("run", List.class).invoke(null, got);
            }
        }
        return got;
    }

    private static long valueOf(String due) throws Exception {
        boolean named = Character.isUpperCase(due.charAt(0));
        return named ? PaneLight.class.getField(due).getInt(null) : Long.parseLong(due);
    }

    private static void wholeFace(String use) {
        for (Method m : PaneLight.class.getDeclaredMethods()) {
            if (Modifier.isPublic(m.getModifiers())) {
                holds("its use is shown, with an answer: " + m.getName(), use.contains("\np." + m.getName() + "("));
            }
        }
    }

    /** The first way runs all tests, this one too, so that it can't be run from here: .ci/run itself shows that it works. */
    private static void commands(List<String> blocks, Path build) throws Exception {
        t.due("ways to run tests", blocks.size(), 2);
        holds(".ci/run is the first", blocks.indexOf(".ci/run\n") == 0 && new File(".ci/run").canExecute());
        for (int i = 1; i < blocks.size(); i++) {
            String block = blocks.get(i);
            Process shell = new ProcessBuilder("sh", "-e", "-c", block.replace("/tmp/panelight", build + "/alone"))
                .redirectErrorStream(true).redirectOutput(ProcessBuilder.Redirect.DISCARD).start();
            t.due(block, shell.waitFor(), 0);
        }
    }

    private static void everyTest(String readme) {
        for (String name : new File("src/test/java").list()) {
            String plain = name.replace(".java", "");
            holds("README.md names " + plain, plain.equals("Check") || readme.contains("`" + plain + "`"));
        }
    }

    private static void delete(Path build) throws IOException {
        try (Stream<Path> all = Files.walk(build)) {
            all.sorted(Comparator.reverseOrder()).forEach(path -> path.toFile().delete());
        }
    }

    private static void holds(String what, boolean so) {
        t.due(what, so ? 1 : 0, 1);
    }
}
