/** All promises: long runs of calls, each answer compared with the one of the plain model. */
public final class ModelTest {
    private static final int RUNS = 400;
    private static final int CALLS = 512;
    private static final int KINDS = 47;

    private final FraudSieve x = new FraudSieve();
    private final Model m = new Model();
    private final int run;
    private long seed;
    private int calls = 0;
    private int accounts = 0;

    private ModelTest(int run) {
        this.run = run;
        this.seed = 7919L * run + 1;
    }

    public static void main(String[] args) {
        for (int run = 0; run < RUNS; run++) {
            new ModelTest(run).go();
        }
        Check.finish();
    }

    // Calls that are repeatable are written out here, as the Java library's random numbers are
    // the same on every machine only by its own promise.
    private int below(int bound) {
        seed = seed * 6364136223846793005L + 1442695040888963407L;
        return (int) ((seed >>> 33) % bound);
    }

    private boolean isOneIn(int chances) {
        return below(chances) == 0;
    }

    private boolean coin() {
        return isOneIn(2);
    }

    /** Mostly a number in the range; now and then one at or behind its ends. */
    private int number(int least, int greatest) {
        if (isOneIn(40)) {
            int[] odd = {least - 1, greatest + 1, -1, Integer.MIN_VALUE, Integer.MAX_VALUE, 0};
            return odd[below(odd.length)];
        }
        if (isOneIn(12) || greatest < least) {
            return coin() ? least : greatest;
        }
        return least + below(greatest - least + 1);
    }

    private int account() {
        return number(0, accounts - 1);
    }

    private int payment() {
        return number(0, m.payments() - 1);
    }

    private int window() {
        return isOneIn(3) ? number(1, 10080) : number(1, 60);
    }

    private char feature() {
        return isOneIn(50) ? (char) below(400) : "nsmlrcigkdfqa".charAt(below(13));
    }

    private int amount() {
        int[] edges = {899, 900, 999, 1000, 1, 9999};
        return isOneIn(4) ? edges[below(edges.length)] : number(1, isOneIn(3) ? 9999 : 100);
    }

    private int bound() {
        int[] scales = {4, 20, 1000, 99999};
        return number(0, scales[below(scales.length)]);
    }

    private void go() {
        boolean isFull = run % 8 == 3;
        repeat(isFull ? 21 : 1 + below(20), 1);
        int conditions = isFull ? 36 : below(16);
        for (int i = 0; i < conditions; i++) {
            call(coin() ? 16 : 16 + below(4));
        }
        repeat(isFull ? 14 : below(8), 22);
        if (isFull) {
            fill();
        }
        while (calls < CALLS) {
            call(kind());
        }
    }

    /** Pays until there are 200 payments: only then an index too far shows in the answers. */
    private void fill() {
        for (int i = 0; i < 250 && m.payments() < 200; i++) {
            call(isOneIn(15) ? 7 : 9);
        }
    }

    private void repeat(int times, int kind) {
        for (int i = 0; i < times; i++) {
            call(kind);
        }
    }

    private int kind() {
        if (isOneIn(3)) {
            return 9;
        }
        if (isOneIn(12)) {
            return 7;
        }
        return isOneIn(10) ? 35 : below(KINDS);
    }

    private void open() {
        char country = isOneIn(60) ? (char) below(400) : (char) ('a' + below(4));
        both("open", () -> m.open(country), () -> x.open(country));
        accounts = m.accounts();
    }

    private void both(String label, Check.Call due, Check.Call got) {
        Check.same("run " + run + " " + label, Check.outcome(due), got);
    }

    private void call(int kind) {
        calls++;
        if (kind < 15) {
            callOfAccounts(kind);
        } else if (kind < 25) {
            callOfConditions(kind);
        } else if (kind < 37) {
            callOfReasons(kind);
        } else {
            callOfReview(kind);
        }
    }

    private void callOfAccounts(int kind) {
        int a = account();
        int b = account();
        int w = window();
        int minutes = isOneIn(8) ? number(1, 1440) : number(1, 20);
        int amount = amount();
        int p = payment();
        boolean yes = isOneIn(3);
        switch (kind) {
            case 1 -> open();
            case 2 -> both("setMarked", () -> m.setMarked(a, yes), () -> x.setMarked(a, yes));
            case 3 -> both("setBlocked", () -> m.setBlocked(a, isBlocking(yes)),
                    () -> x.setBlocked(a, isBlocking(yes)));
            case 4 -> both("isMarked", () -> m.isMarked(a), () -> x.isMarked(a));
            case 5 -> both("countryOf", () -> m.countryOf(a), () -> x.countryOf(a));
            case 6 -> both("accounts", m::accounts, x::accounts);
            case 7 -> both("pass", () -> m.pass(minutes), () -> x.pass(minutes));
            case 8 -> both("time", m::time, x::time);
            case 9 -> both("pay", () -> m.pay(a, b, amount), () -> x.pay(a, b, amount));
            case 10 -> both("payments", m::payments, x::payments);
            case 11 -> both("minuteOf", () -> m.minuteOf(p), () -> x.minuteOf(p));
            case 12 -> both("sentBy", () -> m.sentBy(a, w), () -> x.sentBy(a, w));
            case 13 -> both("sentByAnew", () -> m.sentBy(a, w), () -> x.sentByAnew(a, w));
            default -> both("kept", m::kept, x::kept);
        }
    }

    // Runs in which everybody is blocked for long would see few payments.
    private boolean isBlocking(boolean yes) {
        return yes && run % 3 == 0;
    }

    private void callOfConditions(int kind) {
        int c = number(0, 29);
        int first = number(0, run % 2 == 0 ? 9 : 3);
        int second = number(0, 9);
        int p = payment();
        int w = window();
        int bound = bound();
        char f = feature();
        boolean yes = coin();
        int weight = number(1, 100);
        int rule = number(0, 11);
        int threshold = isOneIn(3) ? number(1, 1201) : number(1, 120);
        switch (kind) {
            case 15 -> both("valueOf " + f, () -> m.valueOf(p, f, w), () -> x.valueOf(p, f, w));
            case 16 -> both("addTest", () -> m.addTest(f, w, yes, bound),
                    () -> x.addTest(f, w, yes, bound));
            case 17 -> both("addBoth", () -> m.addJoin(true, first, second),
                    () -> x.addBoth(first, second));
            case 18 -> both("addEither", () -> m.addJoin(false, first, second),
                    () -> x.addEither(first, second));
            case 19 -> both("addNot", () -> m.addNot(c), () -> x.addNot(c));
            case 20 -> both("holds", () -> m.holds(c, p), () -> x.holds(c, p));
            case 21 -> both("sizeOf", () -> m.sizeOf(c), () -> x.sizeOf(c));
            case 22 -> both("addRule", () -> m.addRule(first, weight),
                    () -> x.addRule(first, weight));
            case 23 -> both("setRule", () -> m.setRule(rule, yes),
                    () -> x.setRule(rule, yes));
            default -> both("setThreshold", () -> m.setThreshold(threshold),
                    () -> x.setThreshold(threshold));
        }
    }

    private void callOfReasons(int kind) {
        int p = payment();
        int reason = number(0, 3);
        int test = number(0, 3);
        int rank = number(0, Math.max(0, m.openAlerts() - 1));
        int open = rank(rank, p);
        boolean yes = coin();
        switch (kind) {
            case 25 -> both("score", () -> m.score(p), () -> x.score(p));
            case 26 -> both("scoreNow", () -> m.scoreNow(p), () -> x.scoreNow(p));
            case 27 -> both("reasons", () -> m.reasons(p), () -> x.reasons(p));
            case 28 -> both("reasonRule", () -> m.reasonRule(p, reason),
                    () -> x.reasonRule(p, reason));
            case 29 -> both("reasonTests", () -> m.reasonTests(p, reason),
                    () -> x.reasonTests(p, reason));
            case 30 -> both("reasonFeature", () -> m.reasonFeature(p, reason, test),
                    () -> x.reasonFeature(p, reason, test));
            case 31 -> both("reasonValue", () -> m.reasonValue(p, reason, test),
                    () -> x.reasonValue(p, reason, test));
            case 32 -> both("nextAlert", m::nextAlert, x::nextAlert);
            case 33 -> both("alertAt", () -> m.alertAt(rank), () -> x.alertAt(rank));
            case 34 -> both("openAlerts", m::openAlerts, x::openAlerts);
            case 35 -> both("decide", () -> m.decide(open, yes), () -> x.decide(open, yes));
            default -> both("alertOf", () -> m.alertOf(p), () -> x.alertOf(p));
        }
    }

    private int rank(int rank, int otherwise) {
        return rank >= 0 && rank < m.openAlerts() ? m.alertAt(rank) : otherwise;
    }

    private void callOfReview(int kind) {
        int a = account();
        int w = window();
        int rule = number(0, 5);
        int threshold = isOneIn(3) ? number(1, 1201) : number(1, 120);
        int most = isOneIn(3) ? number(0, 200) : number(0, 12);
        switch (kind) {
            case 37 -> both("ring", () -> m.ring(a, w), () -> x.ring(a, w));
            case 38 -> both("ringByTrying", () -> m.ring(a, w), () -> x.ringByTrying(a, w));
            case 39 -> both("group", () -> m.group(a, w), () -> x.group(a, w));
            case 40 -> both("caught", () -> m.caught(threshold), () -> x.caught(threshold));
            case 41 -> both("bestThreshold", () -> m.bestThreshold(most),
                    () -> x.bestThreshold(most));
            case 42 -> both("bestThresholdByTrying", () -> m.bestThreshold(most),
                    () -> x.bestThresholdByTrying(most));
            case 43 -> both("precision", () -> m.precision(rule), () -> x.precision(rule));
            case 44 -> both("meanScore", m::meanScore, x::meanScore);
            case 45 -> both("turnover", m::turnover, x::turnover);
            default -> both("isSound", () -> true, x::isSound);
        }
    }
}
