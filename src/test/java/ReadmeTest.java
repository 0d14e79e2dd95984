import java.io.IOException;
import java.nio.file.Files;
import java.nio.file.Path;
import java.util.ArrayList;
import java.util.List;
import java.util.Set;
import java.util.TreeSet;
import java.util.regex.Matcher;
import java.util.regex.Pattern;
import java.util.stream.Stream;
import javax.tools.JavaCompiler;
import javax.tools.ToolProvider;

/** What README.md shows of the use of the class, and what it says of the tests, is so. */
public final class ReadmeTest {
    private static final String EXAMPLE = "ReadmeExample";
    private static final Pattern SHOWN = Pattern.compile("(\\S.*); +// (.*)");
    private static final Pattern NAMED = Pattern.compile("\\w+ (\\w+) = .*");
    private static final String THROWS = "throws ";

    public static void main(String[] args) throws Exception {
        String page = Files.readString(Path.of("README.md"));
        List<String> lines = exampleLines(page);
        everyCallIsShown(String.join("\n", lines));
        answersAreAsShown(lines);
        ReadmeNumbers.check(page);
        testsAreAsSaid(page);
        Check.finish();
    }

    private static List<String> exampleLines(String page) {
        List<String> lines = new ArrayList<>();
        Matcher block = Pattern.compile("```java\n((?s:.*?))```").matcher(page);
        while (block.find()) {
            lines.addAll(block.group(1).lines().filter(line -> !line.isBlank()).toList());
        }
        return lines;
    }

    private static void everyCallIsShown(String example) {
        Check.same("makes an object", true, () -> example.contains(" = new FraudSieve();"));
        for (String name : FaceTest.publicNames()) {
            Check.same("shows " + name, true, () -> example.contains("sieve." + name + "("));
        }
    }

    /** Makes a test of the example: each of its calls has the answer that stands behind it. */
    private static void answersAreAsShown(List<String> lines) throws Exception {
        StringBuilder source = new StringBuilder("import java.util.NoSuchElementException;\n");
        source.append("final class " + EXAMPLE + " {\n    static void run() {\n");
        for (String line : lines) {
            Matcher shown = SHOWN.matcher(line);
            boolean isAnswered = shown.matches();
            Check.same("has an answer: " + line, line.contains("sieve."), () -> isAnswered);
            source.append(isAnswered ? checkOf(shown.group(1), shown.group(2)) : line);
            source.append('\n');
        }
        source.append("    }\n}\n");
        runExample(source.toString());
    }

    /** A comment is the answer alone, or the answer, a colon and more about it. */
    private static String checkOf(String statement, String comment) {
        String answer = comment.replaceAll(": .*", "");
        if (answer.startsWith(THROWS)) {
            String exception = answer.substring(THROWS.length());
            return check("fails", statement, exception + ".class", statement);
        }
        Matcher named = NAMED.matcher(statement);
        return named.matches()
                ? statement + "; " + check("same", statement, answer, named.group(1))
                : check("same", statement, answer, statement);
    }

    private static String check(String kind, String label, String due, String call) {
        return "Check." + kind + "(\"" + label + "\", " + due + ", () -> " + call + ");";
    }

    // The example is put beside the other classes, as one loaded from elsewhere cannot use Check.
    private static void runExample(String source) throws Exception {
        Path classes = Path.of(ReadmeTest.class.getProtectionDomain().getCodeSource()
                .getLocation().toURI());
        Path file = classes.resolve(EXAMPLE + ".java");
        Files.writeString(file, source);
        JavaCompiler compiler = ToolProvider.getSystemJavaCompiler();
        int errors = compiler.run(null, null, null, "-encoding", "UTF-8",
                "-cp", classes.toString(), "-d", classes.toString(), file.toString());
        Check.same("the example compiles", 0, () -> errors);
        if (errors == 0) {
            Class.forName(EXAMPLE).getDeclaredMethod("run").invoke(null);
        }
    }

    private static void testsAreAsSaid(String page) throws IOException {
        Check.same("tells of .ci/run", true, () -> page.contains("    .ci/run\n"));
        Check.same(".ci/run can be run", true, () -> Files.isExecutable(Path.of(".ci/run")));
        Set<String> said = new TreeSet<>();
        Pattern.compile("`([A-Z]\\w*Test)`").matcher(page).results()
                .forEach(name -> said.add(name.group(1) + ".java"));
        try (Stream<Path> files = Files.list(Path.of("src/test/java"))) {
            Set<String> tests = new TreeSet<>();
            files.map(file -> file.getFileName().toString())
                    .filter(name -> name.endsWith("Test.java")).forEach(tests::add);
            Check.same("tests", tests, () -> said);
        }
    }
}
