import java.io.ByteArrayOutputStream;
import java.io.IOException;
import java.io.PrintStream;
import java.net.URL;
import java.net.URLClassLoader;
import java.nio.charset.StandardCharsets;
import java.nio.file.Files;
import java.nio.file.Path;
import java.util.ArrayList;
import java.util.Comparator;
import java.util.List;
import java.util.TreeSet;
import java.util.regex.Matcher;
import java.util.regex.Pattern;
import java.util.stream.Stream;
import javax.tools.ToolProvider;

/** What README.md says is so when one follows it. Runs in the project's folder. */
public final class ReadmeTest {
    private static final String SOURCE = "src/main/java/AlarmsOfFondness.java";

    public static void main(String[] args) throws IOException, ReflectiveOperationException {
        Checks checks = new Checks("ReadmeTest");
        String page = Files.readString(Path.of("README.md"));
        example(checks, page);
        table(checks, page);
        paths(checks, page);
        checks.end();
    }

    private static void example(Checks checks, String page) throws IOException, ReflectiveOperationException {
        String want = block(page, "text");
        checks.holds("README.md tells what its example prints", !want.isEmpty());
        Path dir = Files.createTempDirectory("readme");
        try {
            Path file = dir.resolve("Example.java");
            Files.writeString(file, block(page, "java"));
            int answer = ToolProvider.getSystemJavaCompiler().run(null, null, null, "--release", "17", "-Xlint:all",
                    "-Werror", "-d", dir.toString(), SOURCE, file.toString());
            checks.due("compiling README.md's example", answer, 0);
            String got = answer == 0 ? printed(dir) : "";
            checks.holds("README.md's example prints what stands there, not\n" + got, got.equals(want));
        } finally {
            remove(dir);
        }
    }

    /** What stands between the fences of the first block of a sort. */
    private static String block(String page, String sort) {
        Matcher m = Pattern.compile("(?s)\n```" + sort + "\n(.*?)```\n").matcher(page);
        return m.find() ? m.group(1) : "";
    }

    private static String printed(Path dir) throws IOException, ReflectiveOperationException {
        PrintStream was = System.out;
        ByteArrayOutputStream bytes = new ByteArrayOutputStream();
        URL[] where = {dir.toUri().toURL()};
        try (URLClassLoader loader = new URLClassLoader(where, ClassLoader.getPlatformClassLoader());
                PrintStream out = new PrintStream(bytes, true, StandardCharsets.UTF_8)) {
            System.setOut(out);
            loader.loadClass("Example").getMethod("main", String[].class).invoke(null, (Object) new String[0]);
        } finally {
            System.setOut(was);
        }
        return bytes.toString(StandardCharsets.UTF_8).replace(System.lineSeparator(), "\n");
    }

    private static void remove(Path dir) throws IOException {
        List<Path> all = new ArrayList<>();
        try (Stream<Path> found = Files.walk(dir)) {
            found.sorted(Comparator.reverseOrder()).forEach(all::add);
        }
        for (Path path : all) {
            Files.delete(path);
        }
    }

    private static void table(Checks checks, String page) throws IOException {
        TreeSet<String> told = new TreeSet<>();
        Matcher m = Pattern.compile("\n\\| (\\w+Test) \\|").matcher(page);
        int from = 0;
        while (m.find(from)) {
            checks.holds(m.group(1) + " stands once in README.md's table", told.add(m.group(1)));
            from = m.end() - 1;
        }
        TreeSet<String> there = new TreeSet<>();
        try (Stream<Path> files = Files.list(Path.of("src/test/java"))) {
            files.map(file -> file.getFileName().toString()).filter(name -> name.endsWith("Test.java"))
                    .forEach(name -> there.add(name.substring(0, name.length() - ".java".length())));
        }
        checks.holds("README.md's table has the tests that are there: " + told + ", " + there, told.equals(there));
    }

    /** Files and folders that the page names are there. */
    private static void paths(Checks checks, String page) {
        Matcher m = Pattern.compile("`((?:\\.\\./|src/|\\.ci/)[^` ]+)`|\n    (\\.ci/\\S+)\n").matcher(page);
        int found = 0;
        while (m.find()) {
            Path path = Path.of(m.group(1) != null ? m.group(1) : m.group(2));
            checks.holds(path + " is there", Files.exists(path));
            found++;
        }
        checks.holds("README.md names files", found > 3);
        checks.holds(".ci/run can be run", Files.isExecutable(Path.of(".ci/run")));
    }
}
