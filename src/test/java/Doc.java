import java.io.IOException;
import java.io.UncheckedIOException;
import java.nio.file.Files;
import java.nio.file.Path;
import java.util.ArrayList;
import java.util.LinkedHashMap;
import java.util.List;
import java.util.Map;
import java.util.Set;
import java.util.TreeSet;
import java.util.regex.Matcher;
import java.util.regex.Pattern;

/** The text of ../shared/DOC.md, and which of its words have a test of their own. */
final class Doc {
    private static final Map<String, Section> sections = read();
    private static String sentenceNow = "";
    private static int callsBefore = 0;

    /** A section's text on one line, and for each character whether a test is about it. */
    private record Section(String text, boolean[] isTested) {
    }

    private Doc() {
    }

    private static Map<String, Section> read() {
        Map<String, Section> found = new LinkedHashMap<>();
        try {
            for (String part : Files.readString(Path.of("../shared/DOC.md")).split("\n## ")) {
                String name = part.lines().findFirst().orElse("").replaceAll(":.*", "");
                String text = part.substring(part.indexOf('\n')).replaceAll("\\s+", " ").strip();
                found.put(name, new Section(text, new boolean[text.length()]));
            }
        } catch (IOException e) {
            throw new UncheckedIOException(e);
        }
        return found;
    }

    static void term(String sentence) {
        says("Terms", sentence);
    }

    static void promise(int number, String sentence) {
        says("Promise " + number, sentence);
    }

    /** What is checked from here to the next sentence is the test of this sentence. */
    static void says(String name, String sentence) {
        endSentence();
        sentenceNow = name + ", " + sentence;
        Check.setTopic(sentenceNow);
        Section section = sections.get(name);
        int first = section.text.indexOf(sentence);
        Check.same("is in the document", true, () -> first >= 0);
        for (int at = first; at >= 0; at = section.text.indexOf(sentence, at + 1)) {
            for (int i = at; i < at + sentence.length(); i++) {
                section.isTested[i] = true;
            }
        }
        callsBefore = Check.calls();
    }

    private static void endSentence() {
        int calls = Check.calls() - callsBefore;
        Check.same("has a test", true, () -> sentenceNow.isEmpty() || calls > 0);
    }

    /** "2 IllegalStateException" and the like, for each exception that a promise lists. */
    static Set<String> exceptions() {
        Set<String> found = new TreeSet<>();
        for (String name : sections.keySet()) {
            for (String exception : exceptionsOf(name)) {
                found.add(name.replace("Promise ", "") + " " + exception);
            }
        }
        return found;
    }

    /** The same for each two exceptions of a promise, in the order in which it lists them. */
    static Set<String> pairsOfExceptions() {
        Set<String> found = new TreeSet<>();
        for (String name : sections.keySet()) {
            List<String> listed = exceptionsOf(name);
            for (int second = 1; second < listed.size(); second++) {
                for (String first : listed.subList(0, second)) {
                    String pair = first + " " + listed.get(second);
                    found.add(name.replace("Promise ", "") + " " + pair);
                }
            }
        }
        return found;
    }

    private static List<String> exceptionsOf(String name) {
        List<String> names = new ArrayList<>();
        Matcher throwing = Pattern.compile("Throws `(\\w+)` if")
                .matcher(sections.get(name).text);
        while (throwing.find()) {
            names.add(throwing.group(1));
        }
        return names;
    }

    /** Fails for each run of words of the terms and the promises that no test is about. */
    static void checkAllTested() {
        endSentence();
        Check.setTopic("words without a test");
        for (Map.Entry<String, Section> entry : sections.entrySet()) {
            String name = entry.getKey();
            if (name.equals("Terms") || name.startsWith("Promise ")) {
                Check.same(name, "", () -> untested(entry.getValue()));
            }
        }
    }

    private static String untested(Section section) {
        // A promise begins with the head of its method, which FaceTest looks at.
        Matcher head = Pattern.compile("^`[^`]*`:").matcher(section.text);
        int start = head.find() ? head.end() : 0;
        StringBuilder words = new StringBuilder();
        for (int i = start; i < section.text.length(); i++) {
            words.append(section.isTested[i] ? '|' : section.text.charAt(i));
        }
        return words.toString().replaceAll("\\|+( -)? (?=\\||$)", "|")
                .replaceAll("\\|+", "|").replaceAll("^ ?-? ?\\||\\|$", "").strip();
    }
}
