import java.io.OutputStream;
import java.lang.reflect.Method;
import java.lang.reflect.Modifier;
import java.net.URL;
import java.net.URLClassLoader;
import java.nio.file.Files;
import java.nio.file.Path;
import java.util.ArrayList;
import java.util.List;
import java.util.regex.Matcher;
import java.util.regex.Pattern;
import java.util.stream.Stream;
import javax.tools.ToolProvider;

/** README.md: the run of calls in it answers as its comments say, and it names every call and every test. */
public final class ReadmeTest {
    private static final Path README = Path.of("README.md");
    private static final Path TESTS = Path.of("src/test/java");
    private static final Path OUT = Path.of("build/readme");
    /** A line that gives an answer a name, and what the answer is. */
    private static final Pattern ASKED = Pattern.compile("^ *(?:int|long) (\\w+) = .*; +// (-?\\d+)\\b.*$");

    private static final Checks CHECKS = new Checks();

    private ReadmeTest() { }

    public static void main(String[] args) throws Exception {
        String readme = Files.readString(README);
        runOfCalls(readme);
        calls(readme);
        tests(readme);
        CHECKS.end();
    }

    /** Writes the code of the page into a class that answers what was asked, and runs it. */
    private static void runOfCalls(String readme) throws Exception {
        Matcher block = Pattern.compile("```java\n(.*?)```", Pattern.DOTALL).matcher(readme);
        CHECKS.holds("there is code", block.find());
        String code = block.group(1);
        List<String> names = new ArrayList<>();
        List<Long> due = new ArrayList<>();
        for (String line : code.split("\n")) {
            Matcher asked = ASKED.matcher(line);
            if (asked.matches()) {
                names.add(asked.group(1));
                due.add(Long.valueOf(asked.group(2)));
            }
            CHECKS.holds("an answer is told: " + line, asked.matches() || !line.contains("// "));
        }
        CHECKS.holds("answers are told", names.size() > 10);
        long[] got = run("public final class Shown {\n    public static long[] answers() {\n" + code
                + "        return new long[] {" + String.join(", ", names) + "};\n    }\n}\n");
        for (int i = 0; i < names.size(); i++) {
            CHECKS.due("README.md: " + names.get(i), got[i], due.get(i));
        }
    }

    private static long[] run(String source) throws Exception {
        Files.createDirectories(OUT);
        Path file = OUT.resolve("Shown.java");
        Files.writeString(file, source);
        String place = Path.of(ShakenParcels.class.getProtectionDomain().getCodeSource().getLocation().toURI()).toString();
        int failed = ToolProvider.getSystemJavaCompiler().run(null, OutputStream.nullOutputStream(), System.out, "-nowarn", "-cp", place, "-d", OUT.toString(), file.toString());
        CHECKS.due("the code of README.md is compiled", failed, 0);
        try (URLClassLoader loader = new URLClassLoader(new URL[] {OUT.toUri().toURL()}, ReadmeTest.class.getClassLoader())) {
            return (long[]) loader.loadClass("Shown").getMethod("answers").invoke(null);
        }
    }

    private static void calls(String readme) {
        for (Method method : ShakenParcels.class.getDeclaredMethods()) {
            if (Modifier.isPublic(method.getModifiers())) {
                CHECKS.holds("README.md names " + method.getName(), readme.contains("`" + method.getName() + "`"));
            }
        }
        for (String constant : List.of("`BAD` (-1)", "`NO` (-2)", "`FULL` (-3)", "`NONE` (-4)")) {
            CHECKS.holds("README.md names " + constant, readme.contains(constant));
        }
    }

    private static void tests(String readme) throws Exception {
        try (Stream<Path> files = Files.list(TESTS)) {
            for (String name : files.map(file -> file.getFileName().toString().replace(".java", "")).toList()) {
                if (name.endsWith("Test")) {
                    CHECKS.holds("README.md has a row for " + name, readme.contains("| `" + name + "` |"));
                }
            }
        }
        Matcher named = Pattern.compile("^\\| `(\\w+Test)` \\|", Pattern.MULTILINE).matcher(readme);
        while (named.find()) {
            CHECKS.holds("there is a test " + named.group(1), Files.exists(TESTS.resolve(named.group(1) + ".java")));
        }
    }
}
