import java.util.LinkedHashMap;
import java.util.List;
import java.util.Map;
import java.util.Set;
import java.util.TreeSet;
import java.util.regex.MatchResult;
import java.util.regex.Pattern;

/** The ranges and limits that README.md tells. */
final class ReadmeNumbers {
    private record Filling(Scenes.Scene start, Snapshot.Ask add) {
    }

    private ReadmeNumbers() {
    }

    static void check(String page) {
        ranges(page);
        limits(page);
        greatestSize(page);
    }

    private static Map<String, List<Refused.AskNumber>> callsByRange() {
        Map<String, List<Refused.AskNumber>> calls = new LinkedHashMap<>();
        calls.put("country of `open`", List.of((x, n) -> x.open((char) n)));
        calls.put("minutes of `pass`", List.of(FraudSieve::pass));
        calls.put("amount of `pay`", List.of((x, n) -> x.pay(0, 1, n)));
        calls.put("window of any call", List.of((x, n) -> x.sentBy(0, n),
                (x, n) -> x.sentByAnew(0, n), (x, n) -> x.valueOf(0, 'n', n),
                (x, n) -> x.addTest('n', n, true, 0), (x, n) -> x.ring(0, n),
                (x, n) -> x.ringByTrying(0, n), (x, n) -> x.group(0, n)));
        calls.put("bound of `addTest`", List.of((x, n) -> x.addTest('n', 1, true, n)));
        calls.put("weight of `addRule`", List.of((x, n) -> x.addRule(0, n)));
        calls.put("threshold of any call",
                List.of(FraudSieve::setThreshold, FraudSieve::caught));
        calls.put("number of `bestThreshold` and `bestThresholdByTrying`",
                List.of(FraudSieve::bestThreshold, FraudSieve::bestThresholdByTrying));
        return calls;
    }

    private static void ranges(String page) {
        Map<String, List<Refused.AskNumber>> calls = callsByRange();
        Set<String> told = new TreeSet<>();
        for (MatchResult row : rows(page, "\\| (.*) \\| (\\S+) to (\\S+) \\|")) {
            String label = row.group(1);
            told.add(label);
            for (Refused.AskNumber call : calls.getOrDefault(label, List.of())) {
                range(label, numberOf(row.group(2)), numberOf(row.group(3)), call);
            }
        }
        Check.same("ranges", new TreeSet<>(calls.keySet()), () -> told);
    }

    private static int numberOf(String text) {
        return text.startsWith("'") ? text.charAt(1) : Integer.parseInt(text);
    }

    private static void range(String label, int least, int greatest, Refused.AskNumber call) {
        Check.same(label + " " + least, false, () -> isOutside(call, least));
        Check.same(label + " " + greatest, false, () -> isOutside(call, greatest));
        Check.same(label + " below", true, () -> isOutside(call, least - 1));
        Check.same(label + " above", true, () -> isOutside(call, greatest + 1));
    }

    private static boolean isOutside(Refused.AskNumber call, int number) {
        FraudSieve x = withCondition();
        String outcome = Check.outcome(() -> call.of(x, number));
        return outcome.equals("throws " + IllegalArgumentException.class.getName());
    }

    private static FraudSieve withCondition() {
        FraudSieve x = Scenes.withPayment(1);
        x.addTest('n', 1, true, 0);
        return x;
    }

    private static void limits(String page) {
        Map<String, Filling> fillings = new LinkedHashMap<>();
        fillings.put("accounts", new Filling(Scenes.EMPTY, x -> x.open('a')));
        fillings.put("payments",
                new Filling(() -> Scenes.withAccounts(2), x -> x.pay(0, 1, 1)));
        fillings.put("conditions", new Filling(Scenes.EMPTY, x -> x.addTest('n', 1, true, 0)));
        fillings.put("rules", new Filling(ReadmeNumbers::withCondition, x -> x.addRule(0, 1)));
        Set<String> told = new TreeSet<>();
        for (MatchResult row : rows(page, "\\| (\\w+) \\| (\\d+) \\|")) {
            told.add(row.group(1));
            if (fillings.containsKey(row.group(1))) {
                fill(row.group(1), Integer.parseInt(row.group(2)), fillings.get(row.group(1)));
            }
        }
        Check.same("limits", new TreeSet<>(fillings.keySet()), () -> told);
    }

    private static void fill(String label, int most, Filling filling) {
        FraudSieve x = filling.start.make();
        for (int number = 0; number < most; number++) {
            Check.same("one more of the " + label, number, () -> filling.add.of(x));
        }
        Check.fails("too many " + label, Check.STATE, () -> filling.add.of(x));
    }

    private static void greatestSize(String page) {
        List<MatchResult> told = rows(page, "larger than (\\d+) is refused with an `(\\w+)`");
        Check.same("sizes", 1, told::size);
        for (MatchResult sentence : told) {
            FraudSieve x = Scenes.SIZES.make();
            Check.same("greatest size", sentence.group(1), () -> x.sizeOf(14));
            Check.same("too large", "throws java.lang." + sentence.group(2),
                    () -> Check.outcome(() -> x.addNot(14)));
        }
    }

    private static List<MatchResult> rows(String page, String form) {
        return Pattern.compile(form).matcher(page).results().toList();
    }
}
