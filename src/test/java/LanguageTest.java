import java.io.IOException;
import java.nio.file.Files;
import java.nio.file.Path;
import java.util.List;
import java.util.Set;
import java.util.TreeSet;
import java.util.regex.Matcher;
import java.util.regex.Pattern;

/** What ../shared/LANGUAGE.md rules out and a look at the text of the class can find. */
public final class LanguageTest {
    private static final int LONGEST_METHOD = 60;

    public static void main(String[] args) throws IOException {
        String source = Files.readString(Path.of("src/main/java/FraudSieve.java"));
        String code = source.replaceAll("/\\*(?s:.*?)\\*/|//.*", "")
                .replaceAll("\"[^\"\n]*\"", "\"\"");
        forbiddenSigns(code);
        imports(code);
        library(code);
        exceptions(code);
        methodLengths(source);
        Check.finish();
    }

    private static void forbiddenSigns(String code) {
        String[] forbidden = {"->", "::", "\\btry\\b", "\\bcatch\\b", "\\bfinally\\b",
            "\\bsynchronized\\b", "\\bassert\\b", "\\bpackage\\b", "\\bprotected\\b",
            "\\bstatic \\{", "\\w+Exact\\b", "@", "\\bnative\\b", "\\bvar\\b"};
        for (String sign : forbidden) {
            Check.same("no " + sign, false, () -> Pattern.compile(sign).matcher(code).find());
        }
        Check.same("signs 1 to 127", true, () -> code.chars().allMatch(c -> c < 128));
    }

    private static void imports(String code) {
        Check.same("imports", Set.of("java.util.NoSuchElementException"),
                () -> matches(code, "import ([\\w.*]+);"));
    }

    // The class uses less of the library than the rules leave; this list grows with its needs.
    private static void library(String code) {
        Check.same("library", Set.of("Integer.bitCount"),
                () -> matches(code, "\\b((?:Integer|Long|Math|Arrays|System|String)\\.\\w+)"));
    }

    private static void exceptions(String code) {
        Set<String> allowed = Set.of("IllegalStateException", "IllegalArgumentException",
                "IndexOutOfBoundsException", "ArithmeticException",
                "UnsupportedOperationException", "NoSuchElementException");
        Check.same("throw new E(text) alone", matches(code, "throw (.*)").size(),
                () -> matches(code, "throw (new \\w+\\(\"\"\\);)").size());
        Check.same("exceptions", true,
                () -> allowed.containsAll(matches(code, "throw new (\\w+)")));
    }

    private static Set<String> matches(String code, String form) {
        Set<String> found = new TreeSet<>();
        Matcher matcher = Pattern.compile(form).matcher(code);
        while (matcher.find()) {
            found.add(matcher.group(1));
        }
        return found;
    }

    private static void methodLengths(String source) {
        Pattern head = Pattern.compile("( {4}| {8})(?!private static final)\\w.*\\(.*|.*\\) \\{");
        List<String> lines = source.lines().toList();
        for (int start = 0; start < lines.size(); start++) {
            String line = lines.get(start);
            if (head.matcher(line).matches() && line.endsWith("{")) {
                String end = line.replaceAll("\\S.*", "") + "}";
                int length = lines.subList(start, lines.size()).indexOf(end) + 1;
                Check.same("line " + (start + 1) + " starts a short method", true,
                        () -> length <= LONGEST_METHOD);
            }
        }
    }
}
