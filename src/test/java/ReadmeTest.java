import java.io.IOException;
import java.lang.reflect.Method;
import java.lang.reflect.Modifier;
import java.net.URL;
import java.net.URLClassLoader;
import java.nio.file.Files;
import java.nio.file.Path;
import java.util.ArrayList;
import java.util.List;
import java.util.Set;
import java.util.TreeSet;
import java.util.regex.Matcher;
import java.util.regex.Pattern;
import java.util.stream.Stream;
import javax.tools.JavaCompiler;
import javax.tools.ToolProvider;

/** What README.md says of how to use the class and how to run its tests is so. */
public final class ReadmeTest {
    private static final Path PAGE = Path.of("README.md");
    private static final Path SOURCE = Path.of("src/main/java/GreatWave.java");
    private static final Path TESTS = Path.of("src/test/java");
    /** A call, with or without a name for what it answers, and the answer behind it. */
    private static final Pattern ANSWERED =
        Pattern.compile("(?:int (\\w+) = )?(wave\\.(\\w+)\\(.*\\));\\s*// (-?\\d+|true|false)(?::.*)?");
    private static final Pattern MADE = Pattern.compile("GreatWave wave = new GreatWave\\(\\d+, \\d+\\);.*");

    public static void main(String[] args) throws Exception {
        List<String> page = Files.readAllLines(PAGE);
        theRun(page);
        oneTestAlone(page);
        theTable(String.join("\n", page));
        theScript(page);
        Check.end();
    }

    /** The lines of the page inside fences of a language; all others are empty, so that numbers stay. */
    private static List<String> fenced(List<String> page, String language) {
        List<String> lines = new ArrayList<>();
        boolean inside = false;
        for (String line : page) {
            boolean fence = line.startsWith("```");
            lines.add(inside && !fence ? line : "");
            inside = fence ? !inside && line.equals("```" + language) : inside;
        }
        return lines;
    }

    private static void theRun(List<String> page) throws Exception {
        List<String> lines = fenced(page, "java");
        List<Long> want = new ArrayList<>();
        List<String> calls = new ArrayList<>();
        Set<String> names = new TreeSet<>();
        StringBuilder body = new StringBuilder();
        for (int i = 0; i < lines.size(); i++) {
            Matcher line = ANSWERED.matcher(lines.get(i));
            if (line.matches()) {
                String answer = line.group(4);
                want.add(answer.equals("true") ? 1L : answer.equals("false") ? 0L : Long.parseLong(answer));
                calls.add("README.md, line " + (i + 1) + ": " + line.group(2));
                names.add(line.group(3));
                if (line.group(1) == null) {
                    body.append("note(").append(line.group(2)).append(");\n");
                } else {
                    body.append("int ").append(line.group(1)).append(" = ").append(line.group(2)).append(";\n");
                    body.append("note(").append(line.group(1)).append(");\n");
                }
            } else if (!lines.get(i).isEmpty()) {
                Check.yes("README.md, line " + (i + 1) + " makes an object", MADE.matcher(lines.get(i)).matches());
                body.append(lines.get(i)).append('\n');
            }
        }
        Check.yes("the run is no longer than an object is good for", want.size() <= 512);
        Check.yes("every call of the face is in the run: " + names, names.equals(face()));
        long[] got = answers(body.toString());
        Check.due("answers", got.length, want.size());
        for (int i = 0; i < Math.min(got.length, want.size()); i++) {
            Check.due(calls.get(i), got[i], want.get(i));
        }
    }

    private static Set<String> face() {
        Set<String> names = new TreeSet<>();
        for (Method method : GreatWave.class.getDeclaredMethods()) {
            if (Modifier.isPublic(method.getModifiers())) {
                names.add(method.getName());
            }
        }
        return names;
    }

    /** Compiles the page's lines as they stand there and runs them. */
    private static long[] answers(String body) throws Exception {
        Path folder = Files.createTempDirectory("readme");
        try {
            Path source = folder.resolve("ReadmeRun.java");
            Files.writeString(source, "public final class ReadmeRun {\n"
                + "private static long[] all = new long[0];\n"
                + "private static void note(long answer) {\n"
                + "all = java.util.Arrays.copyOf(all, all.length + 1);\nall[all.length - 1] = answer;\n}\n"
                + "private static void note(boolean answer) {\nnote(answer ? 1L : 0L);\n}\n"
                + "public static long[] answers() {\n" + body + "return all;\n}\n}\n");
            JavaCompiler compiler = ToolProvider.getSystemJavaCompiler();
            String path = System.getProperty("java.class.path");
            int failed = compiler.run(null, null, null, "-cp", path, "-d", folder.toString(), source.toString());
            Check.due("compiling the page's run", failed, 0);
            if (failed != 0) {
                return new long[0];
            }
            try (URLClassLoader loader = new URLClassLoader(new URL[] {folder.toUri().toURL()})) {
                return (long[]) loader.loadClass("ReadmeRun").getMethod("answers").invoke(null);
            }
        } finally {
            RunTest.remove(folder);
        }
    }

    private static void oneTestAlone(List<String> page) throws Exception {
        StringBuilder script = new StringBuilder();
        for (String line : fenced(page, "sh")) {
            script.append(line).append('\n');
        }
        Check.yes("the page has lines for a shell", script.toString().contains("java -cp"));
        Check.due("the page's lines for a shell", RunTest.exitOf(Path.of("."), "sh", "-e", "-c", script.toString()), 0);
    }

    /** Every test has its place on the page, every name of a test there is one, and so with the helpers. */
    private static void theTable(String page) throws IOException {
        Set<String> there = new TreeSet<>();
        try (Stream<Path> files = Files.list(TESTS)) {
            files.forEach(file -> there.add(file.getFileName().toString().replace(".java", "")));
        }
        for (String name : there) {
            Check.yes("README.md names " + name, page.contains("`" + name + "`"));
        }
        Matcher named = Pattern.compile("`(\\w+Test)`").matcher(page);
        while (named.find()) {
            Check.yes(named.group(1) + " is a test", there.contains(named.group(1)));
        }
    }

    private static void theScript(List<String> page) {
        Check.yes("README.md names .ci/run", page.contains("    .ci/run"));
        Check.yes(".ci/run can be run", Files.isExecutable(Path.of(".ci/run")));
        Check.yes("README.md names the class's file", String.join("\n", page).contains("`" + SOURCE + "`"));
        Check.yes(SOURCE + " is there", Files.isRegularFile(SOURCE));
    }
}
