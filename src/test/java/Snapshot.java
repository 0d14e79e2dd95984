import java.util.ArrayList;
import java.util.IdentityHashMap;
import java.util.List;
import java.util.Map;

/** All that an object answers, to compare one after a refused call with one without it. */
final class Snapshot {
    interface Ask {
        Object of(FraudSieve x);
    }

    private record Question(String name, Ask ask) {
    }

    // With the calls that make the greatest scene, this stays below the 512 of an object.
    private static final int QUESTIONS_PER_OBJECT = 200;
    private static final String FEATURES = "nsmlrcigkdfqa";
    private static final int LONGEST_WINDOW = 10080;
    private static final Map<Scenes.Scene, List<String>> unchanged = new IdentityHashMap<>();

    private final List<Question> questions = new ArrayList<>();

    private Snapshot() {
    }

    /** The first answer that is another one after the call, or "no change". */
    static String change(Scenes.Scene scene, Ask call) {
        List<String> before = unchanged.computeIfAbsent(scene, key -> answers(key, x -> 0));
        List<String> after = answers(scene, call);
        for (int i = 0; i < before.size(); i++) {
            if (!before.get(i).equals(after.get(i))) {
                return before.get(i) + " is now " + after.get(i);
            }
        }
        return "no change";
    }

    private static List<String> answers(Scenes.Scene scene, Ask call) {
        List<Question> all = questionsFor(scene.make());
        List<String> answers = new ArrayList<>();
        for (int start = 0; start < all.size(); start += QUESTIONS_PER_OBJECT) {
            FraudSieve x = scene.make();
            Check.outcome(() -> call.of(x));
            int end = Math.min(all.size(), start + QUESTIONS_PER_OBJECT);
            for (Question question : all.subList(start, end)) {
                String answer = Check.outcome(() -> question.ask.of(x));
                answers.add(question.name + " answers " + answer);
            }
        }
        return answers;
    }

    private static List<Question> questionsFor(FraudSieve x) {
        Snapshot snapshot = new Snapshot();
        snapshot.askTotals(x.openAlerts());
        snapshot.askAccounts(x.accounts());
        snapshot.askPayments(x.payments());
        snapshot.askConditions(x.payments());
        snapshot.askByChanging(x.accounts());
        return snapshot.questions;
    }

    private void add(String name, Ask ask) {
        questions.add(new Question(name, ask));
    }

    private void askTotals(int openAlerts) {
        add("time", FraudSieve::time);
        add("accounts", FraudSieve::accounts);
        add("payments", FraudSieve::payments);
        add("kept", FraudSieve::kept);
        add("turnover", FraudSieve::turnover);
        add("meanScore", FraudSieve::meanScore);
        add("isSound", FraudSieve::isSound);
        add("openAlerts", FraudSieve::openAlerts);
        add("nextAlert", FraudSieve::nextAlert);
        for (int i = 0; i <= openAlerts; i++) {
            int rank = i;
            add("alertAt " + rank, x -> x.alertAt(rank));
        }
        for (int threshold : new int[] {1, 50, 100, 1201}) {
            add("caught " + threshold, x -> x.caught(threshold));
        }
        for (int most : new int[] {0, 1, 200}) {
            add("bestThreshold " + most, x -> x.bestThreshold(most));
            add("bestThresholdByTrying " + most, x -> x.bestThresholdByTrying(most));
        }
    }

    private void askAccounts(int accounts) {
        for (int i = 0; i < accounts; i++) {
            int account = i;
            add("isMarked " + account, x -> x.isMarked(account));
            add("countryOf " + account, x -> x.countryOf(account));
            for (int window : new int[] {1, LONGEST_WINDOW}) {
                String of = " " + account + " in " + window;
                add("sentBy" + of, x -> x.sentBy(account, window));
                add("sentByAnew" + of, x -> x.sentByAnew(account, window));
                add("ring" + of, x -> x.ring(account, window));
                add("ringByTrying" + of, x -> x.ringByTrying(account, window));
                add("group" + of, x -> x.group(account, window));
            }
        }
    }

    private void askPayments(int payments) {
        for (int i = 0; i < payments; i++) {
            int payment = i;
            add("minuteOf " + payment, x -> x.minuteOf(payment));
            add("score " + payment, x -> x.score(payment));
            add("scoreNow " + payment, x -> x.scoreNow(payment));
            add("alertOf " + payment, x -> x.alertOf(payment));
            add("reasons " + payment, x -> x.reasons(payment));
            if (payment < 3 || payment > payments - 4) {
                askFeatures(payment);
                askReasons(payment);
            } else {
                add("s of " + payment, x -> x.valueOf(payment, 's', LONGEST_WINDOW));
                add("value " + payment, x -> x.reasonValue(payment, 0, 0));
            }
        }
    }

    private void askFeatures(int payment) {
        for (char feature : FEATURES.toCharArray()) {
            add(feature + " of " + payment, x -> x.valueOf(payment, feature, LONGEST_WINDOW));
        }
    }

    private void askReasons(int payment) {
        for (int i = 0; i < 3; i++) {
            int reason = i;
            String of = " of " + payment + ", " + reason;
            add("reasonRule" + of, x -> x.reasonRule(payment, reason));
            add("reasonTests" + of, x -> x.reasonTests(payment, reason));
            for (int j = 0; j < 2; j++) {
                int test = j;
                add("feature" + of, x -> x.reasonFeature(payment, reason, test));
                add("value" + of, x -> x.reasonValue(payment, reason, test));
            }
        }
    }

    private void askConditions(int payments) {
        for (int i = 0; i < 30; i++) {
            int condition = i;
            add("sizeOf " + condition, x -> x.sizeOf(condition));
            add("holds " + condition + ", 0", x -> x.holds(condition, 0));
            add("holds " + condition + ", last", x -> x.holds(condition, payments - 1));
        }
    }

    // What can be seen only by a call that changes something is asked at last.
    private void askByChanging(int accounts) {
        for (int i = 0; i < 12; i++) {
            int rule = i;
            add("precision " + rule, x -> x.precision(rule));
            add("setRule " + rule, x -> x.setRule(rule, true));
        }
        for (int i = 0; i < accounts; i++) {
            int account = i;
            add("setBlocked " + account, x -> x.setBlocked(account, false));
        }
        add("setThreshold", x -> x.setThreshold(1));
        for (int amount : new int[] {1, 9999}) {
            add("pay " + amount, x -> x.pay(1, 0, amount));
            add("score of it", x -> x.score(x.payments() - 1));
        }
        add("open", x -> x.open('d'));
        add("addTest", x -> x.addTest('n', 1, true, 1));
        add("addRule", x -> x.addRule(0, 1));
        add("pass", x -> x.pass(1));
        add("kept after pass", FraudSieve::kept);
    }
}
