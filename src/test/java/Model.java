import java.util.ArrayList;
import java.util.Comparator;
import java.util.List;
import java.util.NoSuchElementException;
import java.util.function.IntPredicate;
import java.util.stream.Collectors;
import java.util.stream.IntStream;
import java.util.stream.Stream;

/** A second reading of the document, as plain as can be, to compare the class with. */
final class Model {
    private static final int FAR = 1000;

    private record Payment(int number, int payer, int receiver, int amount, int minute,
            List<Reason> reasons, int score) {
    }

    private record Found(char feature, int value) {
    }

    private record Reason(int rule, List<Found> tests) {
    }

    private record Rule(Condition condition, int weight) {
    }

    private interface Condition {
        boolean holds(Payment payment);

        int size();

        List<Test> tests();
    }

    private record Test(Model model, char feature, int window, boolean isAtLeast, int bound)
            implements Condition {
        public boolean holds(Payment payment) {
            int value = model.value(payment, feature, window);
            return isAtLeast ? value >= bound : value <= bound;
        }

        public int size() {
            return 1;
        }

        public List<Test> tests() {
            return List.of(this);
        }
    }

    private record Join(boolean isBoth, Condition first, Condition second) implements Condition {
        public boolean holds(Payment payment) {
            boolean one = first.holds(payment);
            boolean two = second.holds(payment);
            return isBoth ? one && two : one || two;
        }

        public int size() {
            return 1 + first.size() + second.size();
        }

        public List<Test> tests() {
            return Stream.concat(first.tests().stream(), second.tests().stream()).toList();
        }
    }

    private record Not(Condition other) implements Condition {
        public boolean holds(Payment payment) {
            return !other.holds(payment);
        }

        public int size() {
            return 1 + other.size();
        }

        public List<Test> tests() {
            return List.of();
        }
    }

    private final List<Character> countries = new ArrayList<>();
    private final List<Integer> openings = new ArrayList<>();
    private final List<Boolean> marked = new ArrayList<>();
    private final List<Boolean> blocked = new ArrayList<>();
    private final List<Payment> payments = new ArrayList<>();
    private final List<Character> alerts = new ArrayList<>();
    private final List<Condition> conditions = new ArrayList<>();
    private final List<Rule> rules = new ArrayList<>();
    private final List<Boolean> on = new ArrayList<>();
    private int now = 0;
    private int threshold = 50;

    int open(char country) {
        argument("abcd".indexOf(country) >= 0);
        state(countries.size() < 20);
        countries.add(country);
        openings.add(now);
        marked.add(false);
        blocked.add(false);
        return countries.size() - 1;
    }

    boolean setMarked(int account, boolean isMarked) {
        index(account, countries);
        return marked.set(account, isMarked);
    }

    boolean setBlocked(int account, boolean isBlocked) {
        index(account, countries);
        return blocked.set(account, isBlocked);
    }

    boolean isMarked(int account) {
        index(account, countries);
        return marked.get(account);
    }

    char countryOf(int account) {
        index(account, countries);
        return countries.get(account);
    }

    int accounts() {
        return countries.size();
    }

    int pass(int minutes) {
        argument(1 <= minutes && minutes <= 1440);
        now += minutes;
        return now;
    }

    int time() {
        return now;
    }

    int pay(int payer, int receiver, int amount) {
        index(payer, countries);
        index(receiver, countries);
        argument(1 <= amount && amount <= 9999);
        if (payer == receiver) {
            throw new UnsupportedOperationException();
        }
        state(!blocked.get(payer) && !blocked.get(receiver) && payments.size() < 200);
        int number = payments.size();
        Payment bare = new Payment(number, payer, receiver, amount, now, List.of(), 0);
        payments.add(bare);
        List<Reason> reasons = reasonsNow(bare);
        int score = reasons.stream().mapToInt(reason -> rules.get(reason.rule).weight).sum();
        payments.set(number, new Payment(number, payer, receiver, amount, now, reasons, score));
        alerts.add(score >= threshold ? 'o' : '-');
        return number;
    }

    private List<Reason> reasonsNow(Payment payment) {
        List<Reason> reasons = new ArrayList<>();
        for (int rule = 0; rule < rules.size(); rule++) {
            Condition condition = rules.get(rule).condition;
            if (on.get(rule) && condition.holds(payment)) {
                reasons.add(new Reason(rule, condition.tests().stream()
                        .filter(test -> test.holds(payment))
                        .map(test -> new Found(test.feature,
                                value(payment, test.feature, test.window)))
                        .toList()));
            }
        }
        return reasons;
    }

    int payments() {
        return payments.size();
    }

    int minuteOf(int payment) {
        return payment(payment).minute;
    }

    int sentBy(int account, int window) {
        index(account, countries);
        window(window);
        return within(payments.size() - 1, now, window).stream()
                .filter(payment -> payment.payer == account)
                .mapToInt(Payment::amount).sum();
    }

    int kept() {
        return within(payments.size() - 1, now, 10080).size();
    }

    int valueOf(int number, char feature, int window) {
        Payment payment = payment(number);
        argument("nsmlrcigkdfqa".indexOf(feature) >= 0);
        window(window);
        return value(payment, feature, window);
    }

    private List<Payment> within(int last, int minute, int window) {
        return payments.stream()
                .filter(payment -> payment.number <= last)
                .filter(payment -> payment.minute > minute - window && payment.minute <= minute)
                .toList();
    }

    private int value(Payment of, char feature, int window) {
        List<Payment> around = within(of.number, of.minute, window);
        List<Payment> sent = around.stream().filter(p -> p.payer == of.payer).toList();
        List<Payment> earlier = payments.stream()
                .filter(p -> p.number < of.number && p.payer == of.payer).toList();
        return switch (feature) {
            case 'n' -> sent.size();
            case 's' -> sent.stream().mapToInt(Payment::amount).sum();
            case 'm' -> sent.stream().mapToInt(Payment::amount).max().getAsInt();
            case 'l' -> (int) sent.stream().filter(p -> p.amount / 100 == 9).count();
            case 'r' -> (int) sent.stream().map(Payment::receiver).distinct().count();
            case 'c' -> (int) sent.stream().map(p -> countries.get(p.receiver)).distinct().count();
            case 'i' -> around.stream().filter(p -> p.receiver == of.payer)
                    .mapToInt(Payment::amount).sum();
            case 'g' -> groupIn(around, of.payer);
            case 'k' -> {
                int way = ways(around, false)[of.receiver][of.payer];
                yield way >= FAR ? 0 : way + 1;
            }
            case 'd' -> linksToMarked(around, of.receiver);
            case 'f' -> earlier.stream().anyMatch(p -> p.receiver == of.receiver) ? 0 : 1;
            case 'q' -> earlier.isEmpty() ? 99999
                    : of.minute - earlier.get(earlier.size() - 1).minute;
            case 'a' -> of.minute - openings.get(of.payer);
            default -> throw new AssertionError();
        };
    }

    /** The least number of payments, or of links, from each account to each one. */
    private int[][] ways(List<Payment> among, boolean areLinks) {
        int count = countries.size();
        int[][] ways = new int[count][count];
        for (int[] row : ways) {
            java.util.Arrays.fill(row, FAR);
        }
        for (Payment payment : among) {
            ways[payment.payer][payment.receiver] = 1;
            if (areLinks) {
                ways[payment.receiver][payment.payer] = 1;
            }
        }
        for (int over = 0; over < count; over++) {
            for (int from = 0; from < count; from++) {
                for (int to = 0; to < count; to++) {
                    ways[from][to] = Math.min(ways[from][to], ways[from][over] + ways[over][to]);
                }
            }
        }
        return ways;
    }

    private int groupIn(List<Payment> among, int account) {
        int[] links = ways(among, true)[account];
        return (int) IntStream.range(0, links.length)
                .filter(other -> other == account || links[other] < FAR).count();
    }

    private int linksToMarked(List<Payment> among, int account) {
        int[] links = ways(among, true)[account];
        int least = IntStream.range(0, links.length).filter(marked::get)
                .map(other -> other == account ? 0 : links[other]).min().orElse(FAR);
        return least >= FAR ? 99 : least;
    }

    int addTest(char feature, int window, boolean isAtLeast, int bound) {
        argument("nsmlrcigkdfqa".indexOf(feature) >= 0);
        window(window);
        argument(0 <= bound && bound <= 99999);
        return add(new Test(this, feature, window, isAtLeast, bound));
    }

    int addJoin(boolean isBoth, int first, int second) {
        index(first, conditions);
        index(second, conditions);
        return add(new Join(isBoth, conditions.get(first), conditions.get(second)));
    }

    int addNot(int other) {
        index(other, conditions);
        return add(new Not(conditions.get(other)));
    }

    private int add(Condition condition) {
        if (condition.size() > 15) {
            throw new UnsupportedOperationException();
        }
        state(conditions.size() < 30);
        conditions.add(condition);
        return conditions.size() - 1;
    }

    boolean holds(int condition, int payment) {
        index(condition, conditions);
        return conditions.get(condition).holds(payment(payment));
    }

    int sizeOf(int condition) {
        index(condition, conditions);
        return conditions.get(condition).size();
    }

    int addRule(int condition, int weight) {
        index(condition, conditions);
        argument(1 <= weight && weight <= 100);
        state(rules.size() < 12);
        rules.add(new Rule(conditions.get(condition), weight));
        on.add(true);
        return rules.size() - 1;
    }

    boolean setRule(int rule, boolean isOn) {
        index(rule, rules);
        return on.set(rule, isOn);
    }

    int setThreshold(int next) {
        argument(1 <= next && next <= 1201);
        int before = threshold;
        threshold = next;
        return before;
    }

    int score(int payment) {
        return payment(payment).score;
    }

    int scoreNow(int payment) {
        return reasonsNow(payment(payment)).stream()
                .mapToInt(reason -> rules.get(reason.rule).weight).sum();
    }

    int reasons(int payment) {
        return payment(payment).reasons.size();
    }

    int reasonRule(int payment, int reason) {
        return reason(payment, reason).rule;
    }

    int reasonTests(int payment, int reason) {
        return reason(payment, reason).tests.size();
    }

    char reasonFeature(int payment, int reason, int test) {
        return found(payment, reason, test).feature;
    }

    int reasonValue(int payment, int reason, int test) {
        return found(payment, reason, test).value;
    }

    private Reason reason(int payment, int reason) {
        List<Reason> reasons = payment(payment).reasons;
        index(reason, reasons);
        return reasons.get(reason);
    }

    private Found found(int payment, int reason, int test) {
        List<Found> tests = reason(payment, reason).tests;
        index(test, tests);
        return tests.get(test);
    }

    private List<Payment> openInOrder() {
        return payments.stream().filter(payment -> alerts.get(payment.number) == 'o')
                .sorted(Comparator.comparing(payment -> -payment.score))
                .collect(Collectors.toList());
    }

    int nextAlert() {
        if (openInOrder().isEmpty()) {
            throw new NoSuchElementException();
        }
        return openInOrder().get(0).number;
    }

    int alertAt(int rank) {
        index(rank, openInOrder());
        return openInOrder().get(rank).number;
    }

    int openAlerts() {
        return openInOrder().size();
    }

    int decide(int payment, boolean isFraud) {
        int receiver = payment(payment).receiver;
        state(alerts.get(payment) == 'o');
        alerts.set(payment, isFraud ? 'f' : 'c');
        if (isFraud) {
            marked.set(receiver, true);
        }
        return openAlerts();
    }

    char alertOf(int payment) {
        payment(payment);
        return alerts.get(payment);
    }

    int ring(int account, int window) {
        index(account, countries);
        window(window);
        int way = ways(within(payments.size() - 1, now, window), false)[account][account];
        if (way >= FAR) {
            throw new NoSuchElementException();
        }
        return way;
    }

    int group(int account, int window) {
        index(account, countries);
        window(window);
        return groupIn(within(payments.size() - 1, now, window), account);
    }

    private int decided(char decision, IntPredicate scores) {
        return (int) payments.stream().filter(payment -> alerts.get(payment.number) == decision)
                .filter(payment -> scores.test(payment.score)).count();
    }

    int caught(int least) {
        argument(1 <= least && least <= 1201);
        return decided('f', score -> score >= least);
    }

    int bestThreshold(int most) {
        argument(0 <= most && most <= 200);
        return IntStream.rangeClosed(1, 1201)
                .filter(least -> decided('c', score -> score >= least) <= most)
                .findFirst().getAsInt();
    }

    float precision(int rule) {
        index(rule, rules);
        List<Character> decisions = payments.stream()
                .filter(payment -> payment.reasons.stream().anyMatch(r -> r.rule == rule))
                .map(payment -> alerts.get(payment.number))
                .filter(alert -> alert == 'f' || alert == 'c').toList();
        if (decisions.isEmpty()) {
            throw new ArithmeticException();
        }
        return (float) decisions.stream().filter(d -> d == 'f').count() / decisions.size();
    }

    double meanScore() {
        if (payments.isEmpty()) {
            throw new ArithmeticException();
        }
        return payments.stream().mapToDouble(Payment::score).sum() / payments.size();
    }

    long turnover() {
        return payments.stream().mapToLong(Payment::amount).sum();
    }

    private Payment payment(int number) {
        if (number < 0 || number >= payments.size()) {
            throw new NoSuchElementException();
        }
        return payments.get(number);
    }

    private static void window(int window) {
        argument(1 <= window && window <= 10080);
    }

    private static void argument(boolean isRight) {
        if (!isRight) {
            throw new IllegalArgumentException();
        }
    }

    private static void state(boolean isRight) {
        if (!isRight) {
            throw new IllegalStateException();
        }
    }

    private static void index(int index, List<?> list) {
        if (index < 0 || index >= list.size()) {
            throw new IndexOutOfBoundsException();
        }
    }
}
