import java.io.IOException;
import java.nio.file.Files;
import java.nio.file.Path;
import java.util.Comparator;
import java.util.List;
import java.util.stream.Collectors;
import java.util.stream.Stream;

/** .ci/run on small projects: it passes what is right, and fails if any test fails or can't be compiled. */
public final class RunTest {
    private static final Path SCRIPT = Path.of(".ci/run");
    private static final String RIGHT = "final class GreatWave { int answer() { return 1; } }";
    private static final String BROKEN = "final class GreatWave { int answer() { return }";

    public static void main(String[] args) throws Exception {
        Check.due("all is right", run(RIGHT, test("OneTest", 1), test("TwoTest", 1), test("Runs", 1)), 0);
        Check.due("the first test fails", run(RIGHT, test("OneTest", 2), test("TwoTest", 1), test("Runs", 1)), 1);
        Check.due("the last test fails", run(RIGHT, test("OneTest", 1), test("TwoTest", 2), test("Runs", 1)), 1);
        Check.due("a shared test fails", run(RIGHT, test("OneTest", 1), test("TwoTest", 1), test("Runs", 2)), 1);
        Check.due("a test throws", run(RIGHT, thrower("OneTest"), test("TwoTest", 1), test("Runs", 1)), 1);
        Check.due("the class is broken", run(BROKEN, test("OneTest", 1), test("TwoTest", 1), test("Runs", 1)), 1);
        Check.due("a test is broken", run(RIGHT, test("OneTest", 1), "class TwoTest {", test("Runs", 1)), 1);
        Check.due("a shared test is broken", run(RIGHT, test("OneTest", 1), test("TwoTest", 1), "class Runs {"), 1);
        Check.due("no shared test", run(RIGHT, test("OneTest", 1), test("TwoTest", 1), null), 1);
        Check.end();
    }

    private static String test(String name, int want) {
        return "public final class " + name + " { public static void main(String[] args) { "
            + "if (new GreatWave().answer() != " + want + ") { System.exit(1); } } }";
    }

    private static String thrower(String name) {
        return "public final class " + name + " { public static void main(String[] args) { "
            + "throw new IllegalStateException(\"as it should\"); } }";
    }

    /** What the script ends with in a project with these two tests and one shared test, if any. */
    private static int run(String source, String one, String two, String shared) throws Exception {
        Path folder = Files.createTempDirectory("run");
        try {
            Path project = folder.resolve("project");
            write(project.resolve("src/main/java/GreatWave.java"), source);
            write(project.resolve("src/test/java/OneTest.java"), one);
            write(project.resolve("src/test/java/TwoTest.java"), two);
            if (shared != null) {
                write(folder.resolve("shared/tests/Runs.java"), shared);
            }
            Path script = project.resolve(".ci/run");
            Files.createDirectories(script.getParent());
            Files.copy(SCRIPT, script);
            // By sh, as a folder for temporary files may not let its files be run.
            return exitOf(folder, "sh", script.toString());
        } finally {
            remove(folder);
        }
    }

    private static void write(Path file, String text) throws IOException {
        Files.createDirectories(file.getParent());
        Files.writeString(file, text);
    }

    /** What it prints is swallowed: a run that fails as it should would look like a fault. */
    static int exitOf(Path folder, String... command) throws Exception {
        ProcessBuilder process = new ProcessBuilder(command).directory(folder.toFile());
        process.redirectErrorStream(true).redirectOutput(ProcessBuilder.Redirect.DISCARD);
        return process.start().waitFor();
    }

    static void remove(Path folder) throws IOException {
        List<Path> all;
        try (Stream<Path> files = Files.walk(folder)) {
            all = files.sorted(Comparator.reverseOrder()).collect(Collectors.toList());
        }
        for (Path file : all) {
            Files.delete(file);
        }
    }
}
