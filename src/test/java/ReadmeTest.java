import java.io.File;
import java.io.IOException;
import java.net.URL;
import java.net.URLClassLoader;
import java.nio.file.Files;
import java.nio.file.Path;
import java.util.ArrayList;
import java.util.List;
import java.util.regex.Matcher;
import java.util.regex.Pattern;
import java.util.stream.Stream;
import javax.tools.JavaCompiler;
import javax.tools.ToolProvider;

/** README.md: its example is compiled and run, and must answer as it says; its table names every test. */
public final class ReadmeTest {
    private static final Path WORK = Path.of("out", "readme");
    private static final Pattern CALL =
            Pattern.compile("(numbers\\.(\\w+)\\(.*\\)); *// (-?[0-9]+|true|false|[A-Z]\\w+Exception)\\b.*");

    private final List<String> lines = new ArrayList<>();
    private final List<String> due = new ArrayList<>();
    private final StringBuilder program = new StringBuilder();

    public static void main(String[] args) throws IOException, ReflectiveOperationException {
        String page = Files.readString(Path.of("README.md"));
        new ReadmeTest().example(page);
        table(page);
        waysToRun(page);
        Checks.end();
    }

    private void example(String page) throws IOException, ReflectiveOperationException {
        program.append("public final class Example {\n    public static void run(String[] got) {\n");
        int begin = page.indexOf("```java\n");
        Checks.same("the page has one example", page.lastIndexOf("```java\n") == begin && begin >= 0, true);
        for (String line : page.substring(begin + 8, page.indexOf("```", begin + 8)).split("\n")) {
            add(line);
        }
        program.append("    }\n}\n");
        Checks.same("the example has many answers", due.size() >= 25, true);
        String[] got = new String[due.size()];
        run(got);
        for (int index = 0; index < got.length; index++) {
            boolean same = due.get(index).equals(got[index]);
            Checks.same(lines.get(index) + " (got " + got[index] + ")", same, true);
        }
    }

    /** A line that tells an answer becomes one that keeps it. */
    private void add(String line) {
        Matcher call = CALL.matcher(line);
        if (!call.matches()) {
            Checks.same("a call without an answer: " + line, line.startsWith("numbers."), false);
            program.append(line).append('\n');
            return;
        }
        int index = due.size();
        lines.add(line);
        due.add(call.group(3));
        program.append("try { got[").append(index).append("] = String.valueOf(").append(call.group(1))
                .append("); } catch (RuntimeException thrown) { got[").append(index)
                .append("] = thrown.getClass().getSimpleName(); }\n");
    }

    private void run(String[] got) throws IOException, ReflectiveOperationException {
        Files.createDirectories(WORK);
        Path source = WORK.resolve("Example.java");
        Files.writeString(source, program);
        JavaCompiler compiler = ToolProvider.getSystemJavaCompiler();
        int failed = compiler.run(null, null, null, "-proc:none", "-cp", System.getProperty("java.class.path"),
                "-d", WORK.toString(), source.toString());
        Checks.same("the example compiles", failed, 0);
        URL[] places = {WORK.toUri().toURL()};
        try (URLClassLoader loader = new URLClassLoader(places, ReadmeTest.class.getClassLoader())) {
            loader.loadClass("Example").getMethod("run", String[].class).invoke(null, (Object) got);
        }
    }

    private static void table(String page) throws IOException {
        try (Stream<Path> files = Files.list(Path.of("src/test/java"))) {
            List<String> names = files.map(file -> file.getFileName().toString())
                    .filter(name -> name.endsWith("Test.java")).map(name -> name.replace(".java", "")).toList();
            Checks.same("tests were found", names.size() >= 10, true);
            for (String name : names) {
                Checks.same("the table names " + name, page.contains("\n| " + name + " | "), true);
            }
            long rows = page.lines().filter(line -> line.matches("\\| \\w+Test \\| .*")).count();
            Checks.same("the table names no other test", rows, names.size());
        }
    }

    private static void waysToRun(String page) throws IOException {
        Checks.same("the page names .ci/run", page.contains("`.ci/run`"), true);
        Checks.same(".ci/run can be run", new File(".ci/run").canExecute(), true);
        Checks.same("it makes out/project", Files.readString(Path.of(".ci/run")).contains("$out/project"), true);
        Checks.same("and a test can be run from there", new File("out/project/TextTest.class").isFile(), true);
        Checks.same("the program is where it is said to be", new File("src/main/java/HingeNumbers.java").isFile(),
                page.contains("`src/main/java/HingeNumbers.java`"));
        Checks.same("NONE", page.contains("`HingeNumbers.NONE` (" + HingeNumbers.NONE + ")"), true);
    }
}
