import java.io.IOException;
import java.lang.reflect.Method;
import java.lang.reflect.Modifier;
import java.net.URL;
import java.net.URLClassLoader;
import java.nio.file.Files;
import java.nio.file.Path;
import java.util.ArrayList;
import java.util.List;
import java.util.regex.Matcher;
import java.util.regex.Pattern;
import java.util.stream.Stream;
import javax.tools.ToolProvider;

/** What README.md shows is so: its calls are compiled and answer the numbers behind them. */
public final class ReadmeTest {
    static final Path README = Path.of("README.md");
    static final Pattern BLOCK = Pattern.compile("```java\n(.*?)```", Pattern.DOTALL);
    static final Pattern ANSWERED = Pattern.compile("(.*?)([a-z.]+\\([^;]*\\)); +// (-?\\d+)(:.*)?");
    static final Pattern BARE = Pattern.compile("[^/]*;");

    static int wrong = 0;
    static int checked = 0;

    static void must(boolean is, String what) {
        if (!is) {
            wrong++;
            System.out.println(what);
        }
    }

    /** Called by what is compiled from the page. */
    public static void due(String line, long got, long want) {
        checked++;
        must(got == want, "README.md: " + line.trim() + " answered " + got);
    }

    public static void main(String[] args) throws Exception {
        String page = Files.readString(README);
        List<String> blocks = new ArrayList<>();
        for (Matcher m = BLOCK.matcher(page); m.find(); ) {
            blocks.add(m.group(1));
        }
        run(blocks);
        namesEveryCall(String.join("", blocks));
        namesEveryTest(page);
        must(checked > 40, "README.md shows only " + checked + " answers");
        System.out.println(wrong == 0 ? "README.md says what is so" : wrong + " faults in README.md");
        if (wrong != 0) {
            System.exit(1);
        }
    }

    static void run(List<String> blocks) throws Exception {
        StringBuilder source = new StringBuilder("public final class Shown {\n");
        for (int i = 0; i < blocks.size(); i++) {
            source.append("public static void block").append(i).append("() {\n");
            for (String line : blocks.get(i).split("\n")) {
                source.append(statement(line)).append('\n');
            }
            source.append("}\n");
        }
        Path out = Files.createTempDirectory("readme");
        Path file = out.resolve("Shown.java");
        Files.writeString(file, source.append("}\n"));
        String classes = System.getProperty("java.class.path");
        int failed = ToolProvider.getSystemJavaCompiler().run(null, null, null, "-cp", classes, "-d", out.toString(), file.toString());
        must(failed == 0, "README.md: its calls do not compile");
        if (failed == 0) {
            callAll(out, blocks.size());
        }
        remove(out);
    }

    static String statement(String line) {
        Matcher m = ANSWERED.matcher(line);
        if (m.matches()) {
            String told = line.replace("\\", "\\\\").replace("\"", "\\\"");
            return m.group(1) + "ReadmeTest.due(\"" + told + "\", " + m.group(2) + ", " + m.group(3) + "L);";
        }
        must(line.isEmpty() || BARE.matcher(line).matches(), "README.md: no answer can be read in: " + line);
        return line;
    }

    static void callAll(Path out, int blocks) throws Exception {
        try (URLClassLoader loader = new URLClassLoader(new URL[] {out.toUri().toURL()}, ReadmeTest.class.getClassLoader())) {
            Class<?> shown = loader.loadClass("Shown");
            for (int i = 0; i < blocks; i++) {
                shown.getMethod("block" + i).invoke(null);
            }
        }
    }

    static void remove(Path out) throws IOException {
        try (Stream<Path> files = Files.list(out)) {
            for (Path file : (Iterable<Path>) files::iterator) {
                Files.delete(file);
            }
        }
        Files.delete(out);
    }

    static void namesEveryCall(String shown) {
        for (Method m : LeastHungry.class.getDeclaredMethods()) {
            if (Modifier.isPublic(m.getModifiers())) {
                must(shown.contains("x." + m.getName() + "("), "README.md does not show " + m.getName());
            }
        }
    }

    static void namesEveryTest(String page) throws IOException {
        try (Stream<Path> tests = Files.list(Path.of("tests"))) {
            tests.forEach(test -> must(page.contains("`tests/" + test.getFileName() + "`"), "README.md does not name " + test));
        }
    }
}
