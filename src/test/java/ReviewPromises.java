/** Promises 41 to 47: what decisions, scores and amounts come to. */
final class ReviewPromises {
    private interface Best {
        int threshold(FraudSieve x, int most);
    }

    private ReviewPromises() {
    }

    static void run() {
        caught();
        Doc.promise(42, "Returns the least threshold from 1 to 1201 at which the number of"
                + " payments that were decided to be no fraud, and whose score is at least the"
                + " threshold, is not greater than a number.");
        best(FraudSieve::bestThreshold);
        Doc.promise(42, "`most`: the number, 0 to 200");
        bestOfMost(FraudSieve::bestThreshold);
        Doc.promise(42, "Returns the threshold, found by halving.");
        allThresholds(FraudSieve::bestThreshold);
        Doc.promise(42, "Throws `IllegalArgumentException` if the number is out of range");
        bestThatIsRefused(FraudSieve::bestThreshold);
        Doc.promise(43, "Returns the same threshold, found by trying all of them from 1 on.");
        best(FraudSieve::bestThresholdByTrying);
        Doc.promise(43, "`most`: the number, 0 to 200");
        bestOfMost(FraudSieve::bestThresholdByTrying);
        Doc.promise(43, "Returns the threshold.");
        allThresholds(FraudSieve::bestThresholdByTrying);
        Doc.promise(43, "Throws `IllegalArgumentException` if the number is out of range");
        bestThatIsRefused(FraudSieve::bestThresholdByTrying);
        precision();
        meanScore();
        turnover();
        isSound();
    }

    /** A payment of less than 10, of 10, 20, 30 or more scores 0, 1, 11, 111. */
    private static FraudSieve withPayments(int... amounts) {
        FraudSieve x = Scenes.withAccounts(2);
        x.addRule(x.addTest('m', 1, true, 10), 1);
        x.addRule(x.addTest('m', 1, true, 20), 10);
        x.addRule(x.addTest('m', 1, true, 30), 100);
        x.setThreshold(1);
        for (int amount : amounts) {
            x.pass(1);
            x.pay(0, 1, amount);
        }
        return x;
    }

    /** Payments of the greatest score, 1200, all with an open alert. */
    private static FraudSieve withGreatestScores(int count) {
        FraudSieve x = Scenes.withAccounts(2);
        x.addTest('n', 1, true, 1);
        for (int rule = 0; rule < 12; rule++) {
            x.addRule(0, 100);
        }
        for (int payment = 0; payment < count; payment++) {
            x.pay(0, 1, 9999);
        }
        return x;
    }

    private static void caught() {
        Doc.promise(41, "Returns how many payments that were decided to be fraud have a score that"
                + " is at least a threshold.");
        FraudSieve x = withPayments(10, 20, 30, 20, 30, 5);
        Check.same("none decided", 0, () -> x.caught(1));
        x.decide(0, true);
        x.decide(1, true);
        x.decide(2, true);
        x.decide(3, false);
        int[][] due = {{1, 3}, {2, 2}, {10, 2}, {11, 2}, {12, 1}, {110, 1}, {111, 1}, {112, 0}};
        for (int[] pair : due) {
            Check.same("at " + pair[0], pair[1], () -> x.caught(pair[0]));
        }
        x.setRule(2, false);
        x.setMarked(1, false);
        x.setThreshold(1201);
        Check.same("by the kept scores", 1, () -> x.caught(111));
        Doc.promise(41, "`threshold`: the threshold, 1 to 1201");
        FraudSieve most = withGreatestScores(200);
        for (int payment = 0; payment < 200; payment++) {
            most.decide(payment, payment != 7);
        }
        Check.same("least", 199, () -> most.caught(1));
        Check.same("the greatest score", 199, () -> most.caught(1200));
        Check.same("greatest", 0, () -> most.caught(1201));
        Doc.promise(41, "Returns the number of payments.");
        Check.same("none", 0, () -> new FraudSieve().caught(1));
        Check.same("some", 1, () -> x.caught(12));
        Doc.promise(41, "Throws `IllegalArgumentException` if the threshold is out of range");
        Refused.outside(1, 1201, Check.ARGUMENT, Scenes.EMPTY, FraudSieve::caught);
        Refused.outside(1, 1201, Check.ARGUMENT, Scenes.MIXED, FraudSieve::caught);
        Refused.outside(1, 1201, Check.ARGUMENT, Scenes.FULL, FraudSieve::caught);
    }

    private static void best(Best best) {
        FraudSieve x = withPayments(10, 20, 30, 20, 30, 5);
        Check.same("none decided", 1, () -> best.threshold(x, 0));
        for (int payment = 0; payment < 4; payment++) {
            x.decide(payment, false);
        }
        x.decide(4, true);
        int[] due = {112, 12, 12, 2, 1, 1};
        for (int most = 0; most < due.length; most++) {
            int number = most;
            Check.same("most " + number, due[number], () -> best.threshold(x, number));
        }
        x.setRule(2, false);
        x.setMarked(1, false);
        x.setThreshold(1201);
        Check.same("by the kept scores", 112, () -> best.threshold(x, 0));
    }

    private static void bestOfMost(Best best) {
        FraudSieve x = withGreatestScores(200);
        for (int payment = 0; payment < 200; payment++) {
            x.decide(payment, false);
        }
        int[][] due = {{0, 1201}, {1, 1201}, {198, 1201}, {199, 1201}, {200, 1}};
        for (int[] pair : due) {
            Check.same("most " + pair[0], pair[1], () -> best.threshold(x, pair[0]));
        }
        for (int most : new int[] {0, 200}) {
            Check.same("nothing", 1, () -> best.threshold(new FraudSieve(), most));
        }
    }

    /** One payment that is no fraud, with each score from 1 to 1200. */
    private static void allThresholds(Best best) {
        for (int score = 1; score <= 1200; score++) {
            FraudSieve x = Scenes.withAccounts(2);
            x.addTest('n', 1, true, 1);
            for (int left = score; left > 0; left -= 100) {
                x.addRule(0, left > 100 ? 100 : left);
            }
            x.setThreshold(1);
            x.pay(0, 1, 1);
            x.decide(0, false);
            Check.same("score of " + score, score + 1, () -> best.threshold(x, 0));
            Check.same("score of " + score, 1, () -> best.threshold(x, 1));
        }
    }

    private static void bestThatIsRefused(Best best) {
        Refused.outside(0, 200, Check.ARGUMENT, Scenes.EMPTY, best::threshold);
        Refused.outside(0, 200, Check.ARGUMENT, Scenes.MIXED, best::threshold);
        Refused.outside(0, 200, Check.ARGUMENT, Scenes.FULL, best::threshold);
    }

    private static void precision() {
        Doc.promise(44, "Returns the share of fraud among the decided payments that have a rule"
                + " among their reasons.");
        FraudSieve x = withPayments(30, 30, 20, 20, 10);
        x.decide(2, false);
        Check.same("no fraud", 0f, () -> x.precision(0));
        x.decide(0, true);
        x.decide(1, false);
        Check.same("one of three", 1f / 3f, () -> x.precision(0));
        Check.same("one of two", 0.5f, () -> x.precision(2));
        x.setRule(2, false);
        Check.same("by the kept reasons", 0.5f, () -> x.precision(2));
        Doc.promise(44, "`rule`: the number of the rule");
        FraudSieve full = withGreatestScores(200);
        full.decide(0, true);
        Check.same("first", 1f, () -> full.precision(0));
        Check.same("last", 1f, () -> full.precision(11));
        Doc.promise(44, "Returns the number of those that are fraud divided by the number of all"
                + " of them, both converted to float.");
        for (int payment = 1; payment < 200; payment++) {
            full.decide(payment, payment % 3 == 0);
            if (payment % 4 == 0) {
                float due = (float) (1 + payment / 3) / (float) (payment + 1);
                Check.same("of " + (payment + 1), due, () -> full.precision(0));
            }
        }
        precisionThatIsRefused();
    }

    private static void precisionThatIsRefused() {
        Doc.promise(44, "Throws `IndexOutOfBoundsException` if there is no such rule");
        Refused.rules(FraudSieve::precision);
        Doc.promise(44, "Throws `ArithmeticException` if there are none");
        Scenes.Scene noPayment = ReviewPromises::withPayments;
        Refused.call("no payment", Check.ARITHMETIC, noPayment, x -> x.precision(0));
        Scenes.Scene noneDecided = () -> withPayments(30, 30);
        Refused.call("none decided", Check.ARITHMETIC, noneDecided, x -> x.precision(0));
        Scenes.Scene another = () -> {
            FraudSieve x = withPayments(10, 30, 5);
            x.decide(0, true);
            return x;
        };
        Refused.call("none with this rule", Check.ARITHMETIC, another, x -> x.precision(2));
        Check.same("one with another rule", 1f, () -> another.make().precision(0));
        Refused.call("a rule that was off", Check.ARITHMETIC, Scenes.MIXED, x -> x.precision(3));
    }

    private static void meanScore() {
        Doc.promise(45, "Returns the mean score of all payments.");
        FraudSieve x = withPayments(5, 30, 20);
        Check.same("of three", 122.0 / 3.0, x::meanScore);
        x.setRule(2, false);
        x.setMarked(1, true);
        Scenes.pass(x, 10080);
        Check.same("by the kept scores, however long ago", 122.0 / 3.0, x::meanScore);
        Doc.promise(45, "Returns the sum of the scores divided by the number of payments, both"
                + " converted to double.");
        Check.same("least", 0.0, () -> withPayments(5).meanScore());
        Check.same("greatest", 1200.0, () -> withGreatestScores(200).meanScore());
        FraudSieve many = withPayments(10);
        many.pass(1);
        for (int count = 2; count <= 200; count++) {
            many.pay(0, 1, 5);
            Check.same("of " + count, 1.0 / count, many::meanScore);
        }
        Doc.promise(45, "Throws `ArithmeticException` if there are no payments");
        Refused.call("nothing", Check.ARITHMETIC, Scenes.EMPTY, FraudSieve::meanScore);
        Refused.call("no payment", Check.ARITHMETIC, ReviewPromises::withPayments,
                FraudSieve::meanScore);
    }

    private static void turnover() {
        Doc.promise(46, "Returns the sum of the amounts of all payments.");
        FraudSieve x = withPayments(5, 30, 20);
        x.pay(1, 0, 100);
        Check.same("of all", 155L, x::turnover);
        Scenes.pass(x, 10080);
        Check.same("outside of the longest window, too", 155L, x::turnover);
        Doc.promise(46, "Returns the sum.");
        Check.same("none", 0L, () -> new FraudSieve().turnover());
        Check.same("least", 1L, () -> Scenes.withPayment(1).turnover());
        Check.same("greatest", 200L * 9999, () -> withGreatestScores(200).turnover());
    }

    private static void isSound() {
        Doc.promise(47, "Checks whether the score of each payment is the sum of the weights of its"
                + " reasons, and sentByAnew() equals sentBy() for each account in the window of"
                + " 10080 minutes.");
        FraudSieve x = withPayments(5, 30, 20);
        for (int day = 0; day < 8; day++) {
            x.pass(1440);
            x.pay(day % 2, 1 - day % 2, 10 * day + 1);
            x.setRule(day % 3, day % 2 == 0);
            Check.same("after " + day, true, x::isSound);
        }
        x.decide(2, true);
        Check.same("after a decision", true, x::isSound);
        Doc.promise(47, "Returns whether both hold.");
        Check.same("new object", true, () -> new FraudSieve().isSound());
        Check.same("mixed object", true, () -> Scenes.MIXED.make().isSound());
        Check.same("full object", true, () -> Scenes.FULL.make().isSound());
        Check.same("greatest scores", true, () -> withGreatestScores(200).isSound());
    }
}
