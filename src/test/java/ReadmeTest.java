import java.io.IOException;
import java.net.URL;
import java.net.URLClassLoader;
import java.nio.file.Files;
import java.nio.file.Path;
import java.util.List;
import java.util.regex.Matcher;
import java.util.regex.Pattern;
import java.util.stream.Collectors;
import java.util.stream.Stream;
import javax.tools.ToolProvider;

/** README.md against what lies here: its example answers as it says, and the files that it names are all there. */
public final class ReadmeTest {
    private static final Path README = Path.of("README.md");
    private static final Path TESTS = Path.of("src/test/java");
    /** A line of the example: a call, perhaps with a name for its answer, and what is said of it. */
    private static final Pattern LINE = Pattern.compile("(?:int (\\w+) = )?(g\\.\\w+\\(.*\\)); *// (-?\\d+)(?::.*)?");
    private static int wrong;
    private static int answers;

    public static void main(String[] args) throws Exception {
        String readme = Files.readString(README);
        example(readme);
        names(readme);
        System.out.println(wrong == 0 ? "README.md tells what is here" : wrong + " things are not as README.md says");
        if (wrong > 0) System.exit(1);
    }

    private static void fail(String how) {
        wrong++;
        System.out.println("README.md: " + how);
    }

    /** The example calls this for each of its lines. */
    public static void due(String call, long got, long said) {
        answers++;
        if (got != said) fail(call + " answered " + got + ", said is " + said);
    }

    // ---- the example

    private static void example(String readme) throws Exception {
        Matcher block = Pattern.compile("(?s)```java\n(.*?)```").matcher(readme);
        if (!block.find()) {
            fail("there is no example");
            return;
        }
        List<String> lines = block.group(1).lines().map(ReadmeTest::asked).collect(Collectors.toList());
        run("public final class Example { public static void run() {\n" + String.join("\n", lines) + "\n} }\n");
        if (answers == 0) fail("its example asks nothing");
    }

    private static String asked(String line) {
        Matcher m = LINE.matcher(line);
        if (!m.matches()) {
            if (line.contains("//")) fail("what is said of this is no answer: " + line);
            return line;
        }
        String call = m.group(2);
        String named = m.group(1) == null ? "" : "int " + m.group(1) + " = " + call + "; ";
        String got = m.group(1) == null ? call : m.group(1);
        return named + "ReadmeTest.due(\"" + call + "\", " + got + ", " + m.group(3) + "L);";
    }

    private static void run(String source) throws Exception {
        Path build = Files.createTempDirectory("readme");
        Path file = Files.writeString(build.resolve("Example.java"), source);
        int refused = ToolProvider.getSystemJavaCompiler().run(null, null, null,
            "-d", build.toString(), "-cp", System.getProperty("java.class.path"), file.toString());
        if (refused != 0) {
            fail("its example is no Java");
        } else {
            try (URLClassLoader loader = new URLClassLoader(new URL[] {build.toUri().toURL()})) {
                loader.loadClass("Example").getMethod("run").invoke(null);
            }
        }
        for (String left : new String[] {"Example.class", "Example.java", ""}) Files.deleteIfExists(build.resolve(left));
    }

    // ---- the files

    private static void names(String readme) throws IOException {
        Matcher path = Pattern.compile("(?:\\.\\./shared|src|\\.ci)/[\\w./]*\\w").matcher(readme);
        while (path.find()) {
            if (!Files.exists(Path.of(path.group()))) fail("there is no " + path.group());
        }
        try (Stream<Path> files = Files.list(TESTS)) {
            files.map(f -> f.getFileName().toString().replace(".java", ""))
                .filter(test -> !readme.contains(test))
                .forEach(test -> fail("it does not tell of " + test));
        }
    }
}
