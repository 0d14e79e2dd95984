/** The terms about time and windows. */
final class TimeTerms {
    private static final String FEATURES = "nsmlrcigkdfqa";

    private TimeTerms() {
    }

    static void run() {
        minutes();
        edgesNow();
        edgesOfLongestWindow();
        edgesAtPayment();
        windowLengths();
    }

    private static void minutes() {
        Doc.term("Time. The time is a number of minutes, at first 0.");
        FraudSieve x = new FraudSieve();
        Check.same("at first", 0, x::time);
        x.open('a');
        x.open('a');
        x.pay(0, 1, 1);
        Check.same("only pass lets it pass", 0, x::time);
        Doc.term("A payment has the minute at which it was made.");
        x.pass(7);
        x.pay(0, 1, 1);
        x.pay(0, 1, 1);
        x.pass(1);
        int[] due = {0, 7, 7};
        for (int payment = 0; payment < 3; payment++) {
            int number = payment;
            Check.same("payment " + number, due[number], () -> x.minuteOf(number));
        }
    }

    private static void edgesNow() {
        Doc.term("It lies in a window of w minutes at a time if its minute is greater than this"
                + " time minus w, and not greater than this time.");
        FraudSieve x = Scenes.withAccounts(2);
        x.pass(3);
        x.pay(0, 1, 100);
        x.pay(1, 0, 5);
        seesPayments(x, 1, true);
        seesPayments(x, 4, true);
        x.pass(1);
        seesPayments(x, 1, false);
        seesPayments(x, 2, true);
        x.pass(9);
        seesPayments(x, 10, false);
        seesPayments(x, 11, true);
        seesPayments(x, 13, true);
        seesPayments(x, 14, true);
        seesPayments(x, 10080, true);
    }

    private static void seesPayments(FraudSieve x, int window, boolean isIn) {
        String label = "window of " + window + " at " + x.time();
        String noRing = "throws java.util.NoSuchElementException";
        Object ring = isIn ? 2 : noRing;
        Check.same(label, isIn ? 100 : 0, () -> x.sentBy(0, window));
        Check.same(label, isIn ? 5 : 0, () -> x.sentByAnew(1, window));
        Check.same(label, ring, () -> x.ring(0, window));
        Check.same(label, ring, () -> x.ringByTrying(1, window));
        Check.same(label, isIn ? 2 : 1, () -> x.group(0, window));
    }

    private static void edgesOfLongestWindow() {
        FraudSieve x = Scenes.withAccounts(2);
        x.pay(0, 1, 100);
        x.pay(1, 0, 5);
        Scenes.pass(x, 10079);
        seesPayments(x, 10079, false);
        seesPayments(x, 10080, true);
        Check.same("kept", 2, x::kept);
        x.pass(1);
        seesPayments(x, 10080, false);
        Check.same("not kept", 0, x::kept);
    }

    /** At the minute 3, 0 pays 1 and 3, and 2 pays 0; what is looked at is 0 pays 2 at 13. */
    private static void edgesAtPayment() {
        FraudSieve x = Scenes.withAccounts(4);
        x.pass(3);
        x.pay(0, 1, 950);
        x.pay(0, 3, 5);
        x.pay(2, 0, 70);
        x.pass(10);
        x.pay(0, 2, 8);
        x.pass(1);
        x.pay(2, 1, 6);
        x.setMarked(3, true);
        int[] outside = {1, 8, 8, 0, 1, 1, 0, 2, 0, 99, 1, 10, 13};
        int[] inside = {3, 963, 950, 1, 3, 3, 70, 4, 2, 2, 1, 10, 13};
        for (int i = 0; i < FEATURES.length(); i++) {
            value(x, FEATURES.charAt(i), 1, outside[i]);
            value(x, FEATURES.charAt(i), 10, outside[i]);
            value(x, FEATURES.charAt(i), 11, inside[i]);
            value(x, FEATURES.charAt(i), 13, inside[i]);
            value(x, FEATURES.charAt(i), 10080, inside[i]);
        }
    }

    private static void value(FraudSieve x, char feature, int window, int due) {
        String label = feature + " in " + window;
        Check.same(label, due, () -> x.valueOf(3, feature, window));
    }

    private static void windowLengths() {
        Doc.term("Windows have 1 to 10080 minutes.");
        FraudSieve x = Scenes.MIXED.make();
        for (int window : new int[] {1, 10080}) {
            Check.same("sentBy " + window, 0, () -> x.sentBy(2, window));
            Check.same("sentByAnew " + window, 0, () -> x.sentByAnew(2, window));
            Check.same("group " + window, 1, () -> x.group(2, window));
            Check.fails("ring " + window, Check.ELEMENT, () -> x.ring(2, window));
            Check.fails("tried " + window, Check.ELEMENT, () -> x.ringByTrying(2, window));
            Check.same("valueOf " + window, 1, () -> x.valueOf(0, 'n', window));
        }
        Check.same("addTest", 7, () -> x.addTest('n', 1, true, 1));
        Check.same("addTest", 8, () -> x.addTest('n', 10080, true, 1));
        Refused.windows(Scenes.MIXED, (y, window) -> y.sentBy(0, window));
        Refused.windows(Scenes.MIXED, (y, window) -> y.sentByAnew(0, window));
        Refused.windows(Scenes.MIXED, (y, window) -> y.group(0, window));
        Refused.windows(Scenes.MIXED, (y, window) -> y.ring(0, window));
        Refused.windows(Scenes.MIXED, (y, window) -> y.ringByTrying(0, window));
        for (char feature : FEATURES.toCharArray()) {
            Refused.windows(Scenes.MIXED, (y, window) -> y.valueOf(0, feature, window));
            Refused.windows(Scenes.MIXED, (y, window) -> y.addTest(feature, window, true, 1));
        }
    }
}
