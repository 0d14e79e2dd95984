/** Promises 33 to 37, and the terms about alerts. */
final class AlertPromises {
    private AlertPromises() {
    }

    static void run() {
        terms();
        termsOfOrder();
        nextAlert();
        alertAt();
        openAlerts();
        decide();
        decideThatIsRefused();
        alertOf();
    }

    /** Payments of an amount under 10, of 10 or more, of 20 or more score 0, 30, 70. */
    private static FraudSieve withPayments(int... amounts) {
        FraudSieve x = Scenes.withAccounts(3);
        x.addRule(x.addTest('m', 1, true, 10), 30);
        x.addRule(x.addTest('m', 1, true, 20), 40);
        x.setThreshold(30);
        for (int amount : amounts) {
            x.pass(1);
            x.pay(0, 1, amount);
        }
        return x;
    }

    private static void terms() {
        Doc.term("Alerts. There is a threshold, at first 50.");
        for (int weight : new int[] {49, 50, 51}) {
            FraudSieve x = Scenes.withAccounts(2);
            x.addRule(x.addTest('n', 1, true, 1), weight);
            x.pay(0, 1, 1);
            Check.same("score of " + weight, weight < 50 ? '-' : 'o', () -> x.alertOf(0));
        }
        Check.same("threshold", 50, () -> new FraudSieve().setThreshold(1));
        Doc.term("A payment whose score is at least the threshold when it is made has an alert,"
                + " which is open until somebody decides whether it is fraud.");
        for (int threshold : new int[] {29, 30, 31, 69, 70, 71}) {
            FraudSieve x = withPayments();
            x.setThreshold(threshold);
            x.pay(0, 1, 10);
            x.pay(0, 1, 20);
            x.setThreshold(1);
            x.setMarked(1, true);
            x.pass(1440);
            String label = "threshold " + threshold;
            Check.same(label, threshold <= 30 ? 'o' : '-', () -> x.alertOf(0));
            Check.same(label, threshold <= 70 ? 'o' : '-', () -> x.alertOf(1));
        }
        FraudSieve x = withPayments(10, 10);
        x.decide(0, true);
        x.decide(1, false);
        Check.same("decided to be fraud", 'f', () -> x.alertOf(0));
        Check.same("decided to be none", 'c', () -> x.alertOf(1));
    }

    private static void termsOfOrder() {
        Doc.term("Open alerts are in descending order of the scores of their payments, those with"
                + " the same score in ascending order of the numbers of these.");
        haveOrder(withPayments());
        haveOrder(withPayments(10), 0);
        haveOrder(withPayments(10, 10, 10), 0, 1, 2);
        haveOrder(withPayments(10, 20), 1, 0);
        haveOrder(withPayments(20, 10), 0, 1);
        FraudSieve x = withPayments(10, 5, 20, 10, 20);
        haveOrder(x, 2, 4, 0, 3);
        x.decide(4, false);
        haveOrder(x, 2, 0, 3);
        x.setRule(1, false);
        x.pass(1);
        x.pay(0, 1, 99);
        haveOrder(x, 2, 0, 3, 5);
        Doc.term("When a payment is decided to be fraud, its receiver is marked.");
        FraudSieve y = withPayments(10);
        y.decide(0, true);
        Check.same("receiver", true, () -> y.isMarked(1));
        Check.same("payer", false, () -> y.isMarked(0));
        marksOfOthersStay();
        FraudSieve z = withPayments(10);
        z.decide(0, false);
        Check.same("no fraud", false, () -> z.isMarked(1));
        z.setMarked(1, true);
        z.pass(1);
        z.pay(0, 1, 10);
        z.decide(1, false);
        Check.same("no fraud, marked before", true, () -> z.isMarked(1));
    }

    private static void marksOfOthersStay() {
        FraudSieve x = withPayments(10);
        x.setMarked(0, true);
        x.setBlocked(1, true);
        x.setBlocked(2, true);
        x.decide(0, true);
        Check.same("another one's mark stays", true, () -> x.isMarked(0));
        Check.same("a blocked receiver", true, () -> x.isMarked(1));
        Check.same("another one that is blocked", false, () -> x.isMarked(2));
        Check.same("the receiver stays blocked", true, () -> x.setBlocked(1, false));
        Check.same("another one stays blocked", true, () -> x.setBlocked(2, false));
        Check.same("nobody else is blocked", false, () -> x.setBlocked(0, false));
    }

    private static void haveOrder(FraudSieve x, int... due) {
        for (int i = 0; i < due.length; i++) {
            int rank = i;
            Check.same("rank " + rank, due[rank], () -> x.alertAt(rank));
        }
        Check.fails("no more", Check.INDEX, () -> x.alertAt(due.length));
        Object first = due.length == 0 ? "throws java.util.NoSuchElementException" : due[0];
        Check.same("first", first, x::nextAlert);
        Check.same("open", due.length, x::openAlerts);
    }

    private static FraudSieve withAlerts(int count) {
        FraudSieve x = Scenes.withAccounts(2);
        x.addRule(x.addTest('n', 1, true, 1), 50);
        for (int payment = 0; payment < count; payment++) {
            x.pay(0, 1, 1);
        }
        return x;
    }

    private static void nextAlert() {
        Doc.promise(33, "Returns the payment of the first open alert.");
        FraudSieve x = withPayments(10, 20, 20, 5);
        for (int payment : new int[] {1, 2, 0}) {
            Check.same("first", payment, x::nextAlert);
            Check.same("again", payment, x::nextAlert);
            x.decide(payment, false);
        }
        Doc.promise(33, "Returns the number of the payment.");
        Check.same("least", 0, () -> withAlerts(1).nextAlert());
        FraudSieve full = withAlerts(199);
        full.addRule(0, 1);
        full.pay(0, 1, 1);
        Check.same("greatest", 199, full::nextAlert);
        Doc.promise(33, "Throws `NoSuchElementException` if no alert is open");
        Refused.call("new object", Check.ELEMENT, Scenes.EMPTY, FraudSieve::nextAlert);
        Refused.call("no alert", Check.ELEMENT, () -> withPayments(5, 9), FraudSieve::nextAlert);
        Refused.call("all decided", Check.ELEMENT, () -> {
            FraudSieve y = withPayments(10, 20);
            y.decide(0, true);
            y.decide(1, false);
            return y;
        }, FraudSieve::nextAlert);
    }

    private static void alertAt() {
        Doc.promise(34, "Returns the payment of an open alert, found by counting those that are"
                + " ahead.");
        FraudSieve x = withPayments(10, 20, 5, 10, 20);
        Check.same("two are ahead", 0, () -> x.alertAt(2));
        x.decide(1, true);
        Check.same("one is ahead", 0, () -> x.alertAt(1));
        Doc.promise(34, "`rank`: the rank, 0 for the first one");
        Check.same("first", 4, () -> x.alertAt(0));
        Check.same("last", 3, () -> x.alertAt(2));
        FraudSieve full = withAlerts(200);
        Check.same("first of 200", 0, () -> full.alertAt(0));
        Check.same("last of 200", 199, () -> full.alertAt(199));
        Doc.promise(34, "Returns the number of the payment.");
        for (int rank = 0; rank < 200; rank++) {
            int number = rank;
            Check.same("all", number, () -> full.alertAt(number));
        }
        Doc.promise(34, "Throws `IndexOutOfBoundsException` if there is no such rank");
        Refused.outside(0, -1, Check.INDEX, Scenes.EMPTY, FraudSieve::alertAt);
        Refused.outside(0, 2, Check.INDEX, Scenes.MIXED, FraudSieve::alertAt);
        Refused.outside(0, 199, Check.INDEX, () -> withAlerts(200), FraudSieve::alertAt);
        Refused.outside(0, -1, Check.INDEX, () -> withPayments(5), FraudSieve::alertAt);
    }

    private static void openAlerts() {
        Doc.promise(35, "Returns the number of open alerts.");
        FraudSieve x = withPayments(10, 20, 5);
        Check.same("some", 2, x::openAlerts);
        x.decide(0, true);
        Check.same("one decided", 1, x::openAlerts);
        x.decide(1, false);
        Check.same("all decided", 0, x::openAlerts);
        Doc.promise(35, "Returns the number of alerts.");
        Check.same("none", 0, () -> new FraudSieve().openAlerts());
        Check.same("all that there can be", 200, () -> withAlerts(200).openAlerts());
    }

    private static void decide() {
        Doc.promise(36, "Decides on the alert of a payment.");
        FraudSieve x = withPayments(10, 20, 10);
        x.decide(2, false);
        Check.same("decided", 'c', () -> x.alertOf(2));
        Check.same("another one is open", 'o', () -> x.alertOf(0));
        Check.same("the score stays", 30, () -> x.score(2));
        Check.same("the reasons stay", 1, () -> x.reasons(2));
        Doc.promise(36, "`payment`: the number of the payment");
        FraudSieve full = withAlerts(200);
        full.decide(0, false);
        full.decide(199, true);
        Check.same("first", 'c', () -> full.alertOf(0));
        Check.same("last", 'f', () -> full.alertOf(199));
        Check.same("the others", 198, full::openAlerts);
        Doc.promise(36, "`isFraud`: whether it is fraud");
        x.decide(1, true);
        Check.same("fraud", 'f', () -> x.alertOf(1));
        Check.same("no fraud", 'c', () -> x.alertOf(2));
        Check.same("marked by fraud alone", true, () -> x.isMarked(1));
        Doc.promise(36, "Returns the number of alerts that are open after the call.");
        Check.same("the last one", 0, () -> x.decide(0, false));
        Check.same("many", 197, () -> full.decide(100, true));
    }

    private static void decideThatIsRefused() {
        Doc.promise(36, "Throws `NoSuchElementException` if there is no such payment");
        Refused.payments((x, payment) -> x.decide(payment, true));
        Refused.payments((x, payment) -> x.decide(payment, false));
        Doc.promise(36, "Throws `IllegalStateException` if it has no alert, or that is not open");
        for (boolean isFraud : new boolean[] {true, false}) {
            Refused.call("no fraud", Check.STATE, Scenes.MIXED, x -> x.decide(0, isFraud));
            Refused.call("fraud", Check.STATE, Scenes.MIXED, x -> x.decide(1, isFraud));
            Refused.call("no alert", Check.STATE, Scenes.MIXED, x -> x.decide(3, isFraud));
        }
        FraudSieve x = withPayments(10, 5);
        x.decide(0, true);
        x.setMarked(1, false);
        Check.fails("decided", Check.STATE, () -> x.decide(0, true));
        Check.fails("no alert", Check.STATE, () -> x.decide(1, true));
        Check.same("marks nobody", false, () -> x.isMarked(1));
    }

    private static void alertOf() {
        Doc.promise(37, "Returns the state of the alert of a payment.");
        FraudSieve x = withPayments(10, 20, 10, 9);
        x.decide(0, true);
        x.decide(1, false);
        Check.same("open", 'o', () -> x.alertOf(2));
        Doc.promise(37, "`payment`: the number of the payment");
        FraudSieve full = withAlerts(199);
        full.setThreshold(51);
        full.pay(0, 1, 1);
        Check.same("first", 'o', () -> full.alertOf(0));
        Check.same("last but one", 'o', () -> full.alertOf(198));
        Check.same("last", '-', () -> full.alertOf(199));
        Doc.promise(37, "Returns 'o' if it is open, 'f' if it was decided to be fraud, 'c' if it"
                + " was decided to be none, '-' if it has none.");
        char[] due = {'f', 'c', 'o', '-'};
        for (int payment = 0; payment < 4; payment++) {
            int number = payment;
            Check.same("payment " + number, due[number], () -> x.alertOf(number));
        }
        x.setMarked(1, false);
        x.setThreshold(1);
        Check.same("no mark, still fraud", 'f', () -> x.alertOf(0));
        Doc.promise(37, "Throws `NoSuchElementException` if there is no such payment");
        Refused.payments(FraudSieve::alertOf);
    }
}
