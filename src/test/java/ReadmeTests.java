import java.io.ByteArrayOutputStream;
import java.io.IOException;
import java.io.PrintStream;
import java.net.URL;
import java.net.URLClassLoader;
import java.nio.charset.StandardCharsets;
import java.nio.file.Files;
import java.nio.file.Path;
import java.util.ArrayList;
import java.util.Comparator;
import java.util.List;
import java.util.regex.Matcher;
import java.util.regex.Pattern;
import java.util.stream.Stream;
import javax.tools.ToolProvider;

/**
 * What README.md shows as a use of the class is compiled and run as it stands there: each line prints the
 * answer that is named behind it. And what README.md says else holds: run it where README.md lies.
 */
public final class ReadmeTests {
    private static final Due due = new Due();
    private static final Pattern EXAMPLE = Pattern.compile("(?s)```java\n(.*?)```");
    private static final Pattern PRINTS = Pattern.compile("System\\.out\\.println\\((.*)\\); +// (-?[0-9]+): .+");

    public static void main(String[] args) throws Exception {
        String readme = Files.readString(Path.of("README.md"));
        List<String> examples = new ArrayList<>();
        Matcher matcher = EXAMPLE.matcher(readme);
        while (matcher.find()) {
            examples.add(matcher.group(1));
        }
        due.is(0, "examples in README.md", examples.size(), 3);
        Path work = Files.createTempDirectory("readme");
        try {
            for (String example : examples) {
                holds(example, work);
            }
        } finally {
            delete(work);
        }
        names(readme);
        says(readme);
        due.end("ReadmeTests");
    }

    /** Each line that prints names its answer, and prints that one. */
    private static void holds(String example, Path work) throws Exception {
        List<String> calls = new ArrayList<>();
        List<String> named = new ArrayList<>();
        for (String line : example.split("\n")) {
            if (line.contains("System.out")) {
                Matcher prints = PRINTS.matcher(line.strip());
                due.holds("README.md names an answer behind " + line.strip(), prints.matches());
                calls.add(prints.matches() ? prints.group(1) : line);
                named.add(prints.matches() ? prints.group(2) : "");
            }
        }
        due.holds("an example prints something", !calls.isEmpty());
        String[] printed = printed(example, work).split("\n");
        due.is(0, "lines that an example prints", printed.length, calls.size());
        for (int i = 0; i < Math.min(printed.length, calls.size()); i++) {
            due.text(0, "README.md: " + calls.get(i), printed[i], named.get(i));
        }
    }

    private static String printed(String example, Path work) throws Exception {
        Matcher name = Pattern.compile("public final class (\\w+)").matcher(example);
        due.holds("an example is a class", name.find());
        Path source = work.resolve(name.group(1) + ".java");
        Files.writeString(source, example);
        int compiled = ToolProvider.getSystemJavaCompiler().run(null, null, null, "--release", "17", "-Xlint:all",
                "-Werror", "-classpath", System.getProperty("java.class.path"), "-d", work.toString(), source.toString());
        due.is(0, "javac of the example " + name.group(1), compiled, 0);
        ByteArrayOutputStream printed = new ByteArrayOutputStream();
        PrintStream screen = System.out;
        try (URLClassLoader loader = new URLClassLoader(new URL[] {work.toUri().toURL()})) {
            System.setOut(new PrintStream(printed, true, StandardCharsets.UTF_8));
            loader.loadClass(name.group(1)).getMethod("main", String[].class).invoke(null, (Object) new String[0]);
        } finally {
            System.setOut(screen);
        }
        return printed.toString(StandardCharsets.UTF_8).replace("\r", "");
    }

    private static void delete(Path work) throws IOException {
        try (Stream<Path> all = Files.walk(work)) {
            for (Path path : all.sorted(Comparator.reverseOrder()).toList()) {
                Files.delete(path);
            }
        }
    }

    /** Each test of the project is named, and what is named is there. */
    private static void names(String readme) throws IOException {
        List<String> tests = new ArrayList<>();
        try (Stream<Path> all = Files.list(Path.of("src/test/java"))) {
            all.map(path -> path.getFileName().toString()).filter(file -> file.endsWith("Tests.java"))
                    .forEach(file -> tests.add(file.replace(".java", "")));
        }
        for (String test : tests) {
            due.holds("README.md names " + test, readme.contains("`" + test + "`"));
        }
        Matcher named = Pattern.compile("`(\\w+Tests)`").matcher(readme);
        while (named.find()) {
            due.holds("there is " + named.group(1), tests.contains(named.group(1)));
        }
    }

    /** What a refused call answers, by the constants as they are; for how long; how the tests are run. */
    private static void says(String readme) {
        due.holds("NONE", readme.contains("| " + BellTouches.NONE + " | `BellTouches.NONE` |"));
        due.holds("BAD", readme.contains("| " + BellTouches.BAD + " | `BellTouches.BAD` |"));
        due.holds("STATE", readme.contains("| " + BellTouches.STATE + " | `BellTouches.STATE` |"));
        due.holds("FULL", readme.contains("| " + BellTouches.FULL + " | `BellTouches.FULL` |"));
        due.holds("NO, the least long", readme.contains("| the least long | `BellTouches.NO` |")
                && BellTouches.NO == Long.MIN_VALUE);
        due.holds("at most 512 calls", readme.contains("at most 512 calls"));
        due.holds("what later calls answer", readme.contains("What later calls answer is free"));
        due.holds(".ci/run is there", readme.contains(".ci/run") && Files.isExecutable(Path.of(".ci/run")));
        for (String file : new String[] {"src/main/java/BellTouches.java", "../shared/DOC.md", "../shared/LANGUAGE.md"}) {
            due.holds(file + " is there", readme.contains("`" + file + "`") && Files.isReadable(Path.of(file)));
        }
    }
}
