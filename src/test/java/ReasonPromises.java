/** Promises 28 to 32, and the terms about reasons. */
final class ReasonPromises {
    private interface AskReason {
        Object of(FraudSieve x, int payment, int reason);
    }

    private ReasonPromises() {
    }

    static void run() {
        terms();
        reasons();
        reasonRule();
        reasonTests();
        reasonFeature();
        reasonValue();
    }

    private static void terms() {
        Doc.term("When a payment is made, the rules that are on and whose condition holds become"
                + " its reasons, in the order of their numbers, with their tests that hold and the"
                + " values of those;");
        FraudSieve x = withManyReasons();
        x.pay(0, 1, 40);
        x.pay(0, 1, 60);
        haveReasons(x);
        Doc.term("they stay as they are then.");
        for (int rule = 0; rule < 8; rule++) {
            x.setRule(rule, rule == 5);
        }
        x.addRule(2, 90);
        x.setMarked(1, true);
        x.pass(100);
        x.pay(0, 1, 9);
        x.scoreNow(0);
        x.holds(12, 2);
        haveReasons(x);
        Check.same("of a later payment", 1, () -> x.reasons(2));
        reason(x, 2, 0, 8, "n", 1);
        Doc.term("Its score is the sum of the weights of its reasons.");
        Check.same("of the first one", 8 + 16 + 64 + 100, () -> x.score(0));
        Check.same("of the second one", 4 + 8 + 64 + 100, () -> x.score(1));
        Check.same("of the third one", 90, () -> x.score(2));
    }

    /** Tests s, m and n, and joins of them, by which the rules are made. */
    private static FraudSieve withManyReasons() {
        FraudSieve x = Scenes.withAccounts(3);
        int sum = x.addTest('s', 60, true, 100);
        int small = x.addTest('m', 60, false, 50);
        int some = x.addTest('n', 60, true, 1);
        int near = x.addTest('d', 60, false, 0);
        int none = x.addNot(some);
        int either = x.addEither(sum, small);
        int both = x.addBoth(some, either);
        int notSum = x.addNot(sum);
        int nested = x.addEither(x.addEither(notSum, both), sum);
        int twice = x.addBoth(small, x.addBoth(some, small));
        int last = x.addEither(twice, some);
        int[] conditions = {near, none, sum, nested, notSum, sum, last, either};
        int[] weights = {1, 2, 4, 8, 16, 32, 64, 100};
        for (int rule = 0; rule < 8; rule++) {
            x.addRule(conditions[rule], weights[rule]);
        }
        x.setRule(5, false);
        return x;
    }

    private static void haveReasons(FraudSieve x) {
        Check.same("reasons", 4, () -> x.reasons(0));
        reason(x, 0, 0, 3, "nm", 1, 40);
        reason(x, 0, 1, 4, "");
        reason(x, 0, 2, 6, "mnmn", 40, 1, 40, 1);
        reason(x, 0, 3, 7, "m", 40);
        Check.same("reasons", 4, () -> x.reasons(1));
        reason(x, 1, 0, 2, "s", 100);
        reason(x, 1, 1, 3, "nss", 2, 100, 100);
        reason(x, 1, 2, 6, "nn", 2, 2);
        reason(x, 1, 3, 7, "s", 100);
    }

    private static void reason(FraudSieve x, int payment, int reason, int rule, String features,
            int... values) {
        String of = payment + ", " + reason;
        Check.same("rule of " + of, rule, () -> x.reasonRule(payment, reason));
        Check.same("tests of " + of, values.length, () -> x.reasonTests(payment, reason));
        for (int i = 0; i < values.length; i++) {
            int test = i;
            Check.same("feature of " + of, features.charAt(test),
                    () -> x.reasonFeature(payment, reason, test));
            Check.same("value of " + of, values[test],
                    () -> x.reasonValue(payment, reason, test));
        }
    }

    /** 199 payments without a reason, and one with 12; the tests are 'n', 8 of a reason. */
    private static FraudSieve withMostReasons() {
        FraudSieve x = Scenes.withAccounts(2);
        x.addTest('n', 1, true, 1);
        x.addBoth(0, 0);
        x.addBoth(1, 1);
        x.addBoth(2, 2);
        for (int payment = 0; payment < 199; payment++) {
            x.pay(0, 1, 1);
        }
        for (int rule = 0; rule < 12; rule++) {
            x.addRule(3, 1);
        }
        x.pay(0, 1, 1);
        return x;
    }

    private static void reasons() {
        Doc.promise(28, "Returns the number of reasons of a payment.");
        FraudSieve x = withManyReasons();
        x.pay(0, 1, 40);
        Check.same("some", 4, () -> x.reasons(0));
        Doc.promise(28, "`payment`: the number of the payment");
        FraudSieve full = withMostReasons();
        Check.same("first", 0, () -> full.reasons(0));
        Check.same("last but one", 0, () -> full.reasons(198));
        Check.same("last", 12, () -> full.reasons(199));
        Doc.promise(28, "Returns the number of reasons.");
        FraudSieve y = Scenes.withPayment(1);
        Check.same("least", 0, () -> y.reasons(0));
        Check.same("greatest", 12, () -> full.reasons(199));
        Doc.promise(28, "Throws `NoSuchElementException` if there is no such payment");
        Refused.payments(FraudSieve::reasons);
    }

    private static void reasonRule() {
        Doc.promise(29, "Returns the rule of a reason.");
        FraudSieve x = withManyReasons();
        x.pay(0, 1, 40);
        Check.same("third", 6, () -> x.reasonRule(0, 2));
        Doc.promise(29, "`payment`: the number of the payment");
        FraudSieve full = withMostReasons();
        Check.same("last", 0, () -> full.reasonRule(199, 0));
        Check.same("first", 7, () -> Scenes.FULL.make().reasonRule(0, 1));
        Doc.promise(29, "`reason`: the index of the reason, from 0");
        Check.same("first", 3, () -> x.reasonRule(0, 0));
        Check.same("last", 7, () -> x.reasonRule(0, 3));
        Check.same("last one of all rules", 11, () -> full.reasonRule(199, 11));
        Doc.promise(29, "Returns the number of the rule.");
        for (int reason = 0; reason < 12; reason++) {
            int rule = reason;
            Check.same("all", rule, () -> full.reasonRule(199, rule));
        }
        Doc.promise(29, "Throws `NoSuchElementException` if there is no such payment");
        Refused.payments((y, payment) -> y.reasonRule(payment, 0));
        Doc.promise(29, "Throws `IndexOutOfBoundsException` if there is no such reason");
        noSuchReason(FraudSieve::reasonRule);
    }

    private static void noSuchReason(AskReason call) {
        Refused.outside(0, -1, Check.INDEX, () -> Scenes.withPayment(1),
                (x, reason) -> call.of(x, 0, reason));
        Refused.outside(0, -1, Check.INDEX, ReasonPromises::withMostReasons,
                (x, reason) -> call.of(x, 198, reason));
        Refused.outside(0, 11, Check.INDEX, ReasonPromises::withMostReasons,
                (x, reason) -> call.of(x, 199, reason));
        Refused.outside(0, 2, Check.INDEX, Scenes.MIXED,
                (x, reason) -> call.of(x, 0, reason));
    }

    private static void noSuchTest(AskReason call) {
        Scenes.Scene none = () -> {
            FraudSieve x = withManyReasons();
            x.pay(0, 1, 40);
            return x;
        };
        Refused.outside(0, -1, Check.INDEX, none, (x, test) -> call.of(x, 1, test));
        Refused.outside(0, 1, Check.INDEX, none, (x, test) -> call.of(x, 0, test));
        Refused.outside(0, 3, Check.INDEX, none, (x, test) -> call.of(x, 2, test));
        Refused.outside(0, 0, Check.INDEX, none, (x, test) -> call.of(x, 3, test));
    }

    private static void reasonTests() {
        Doc.promise(30, "Returns the number of tests of a reason that hold.");
        FraudSieve x = withManyReasons();
        x.pay(0, 1, 40);
        x.pay(0, 1, 60);
        Check.same("two of four", 2, () -> x.reasonTests(0, 0));
        Check.same("three of four", 3, () -> x.reasonTests(1, 1));
        Doc.promise(30, "`payment`: the number of the payment");
        FraudSieve full = withMostReasons();
        Check.same("first", 2, () -> x.reasonTests(0, 0));
        Check.same("last", 8, () -> full.reasonTests(199, 0));
        Doc.promise(30, "`reason`: the index of the reason, from 0");
        Check.same("first", 8, () -> full.reasonTests(199, 0));
        Check.same("last", 8, () -> full.reasonTests(199, 11));
        Check.same("last of four", 1, () -> x.reasonTests(0, 3));
        Doc.promise(30, "Returns the number of tests.");
        Check.same("least", 0, () -> x.reasonTests(0, 1));
        Check.same("greatest", 8, () -> full.reasonTests(199, 5));
        Doc.promise(30, "Throws `NoSuchElementException` if there is no such payment");
        Refused.payments((y, payment) -> y.reasonTests(payment, 0));
        Doc.promise(30, "Throws `IndexOutOfBoundsException` if there is no such reason");
        noSuchReason(FraudSieve::reasonTests);
    }

    private static void reasonFeature() {
        Doc.promise(31, "Returns the feature of a test of a reason that holds.");
        FraudSieve x = withManyReasons();
        x.pay(0, 1, 40);
        x.pay(0, 1, 60);
        Check.same("not of the one that does not", 'm', () -> x.reasonFeature(0, 3, 0));
        Doc.promise(31, "`payment`: the number of the payment");
        FraudSieve full = withMostReasons();
        Check.same("first", 'n', () -> x.reasonFeature(0, 0, 0));
        Check.same("another", 's', () -> x.reasonFeature(1, 0, 0));
        Check.same("last", 'n', () -> full.reasonFeature(199, 0, 0));
        Doc.promise(31, "`reason`: the index of the reason, from 0");
        Check.same("first", 'n', () -> x.reasonFeature(1, 1, 0));
        Check.same("last", 's', () -> x.reasonFeature(1, 3, 0));
        Check.same("last one of all rules", 'n', () -> full.reasonFeature(199, 11, 0));
        Doc.promise(31, "`test`: the index of the test, from 0");
        Check.same("first", 'm', () -> x.reasonFeature(0, 2, 0));
        Check.same("second", 'n', () -> x.reasonFeature(0, 2, 1));
        Check.same("last", 'n', () -> full.reasonFeature(199, 11, 7));
        Doc.promise(31, "Returns the letter of the feature.");
        for (char feature : "nsmlrcigkdfqa".toCharArray()) {
            FraudSieve y = Scenes.withAccounts(2);
            y.addRule(y.addTest(feature, 1, true, 0), 1);
            y.pay(0, 1, 1);
            Check.same("letter", feature, () -> y.reasonFeature(0, 0, 0));
        }
        Doc.promise(31, "Throws `NoSuchElementException` if there is no such payment");
        Refused.payments((y, payment) -> y.reasonFeature(payment, 0, 0));
        Doc.promise(31, "Throws `IndexOutOfBoundsException` if there is no such reason or test");
        noSuchReason((y, payment, reason) -> y.reasonFeature(payment, reason, 0));
        noSuchTest((y, reason, test) -> y.reasonFeature(0, reason, test));
        Refused.outside(0, 7, Check.INDEX, ReasonPromises::withMostReasons,
                (y, test) -> y.reasonFeature(199, 11, test));
    }

    private static void reasonValue() {
        Doc.promise(32, "Returns the value that this test found.");
        FraudSieve x = withManyReasons();
        x.pay(0, 1, 40);
        x.pay(0, 1, 60);
        Check.same("not of the one that does not hold", 40, () -> x.reasonValue(0, 3, 0));
        Doc.promise(32, "`payment`: the number of the payment");
        FraudSieve full = withMostReasons();
        Check.same("first", 1, () -> x.reasonValue(0, 0, 0));
        Check.same("another", 100, () -> x.reasonValue(1, 0, 0));
        Check.same("last", 200, () -> full.reasonValue(199, 0, 0));
        Doc.promise(32, "`reason`: the index of the reason, from 0");
        Check.same("first", 2, () -> x.reasonValue(1, 1, 0));
        Check.same("last", 100, () -> x.reasonValue(1, 3, 0));
        Check.same("last one of all rules", 200, () -> full.reasonValue(199, 11, 0));
        Doc.promise(32, "`test`: the index of the test, from 0");
        Check.same("first", 40, () -> x.reasonValue(0, 2, 0));
        Check.same("second", 1, () -> x.reasonValue(0, 2, 1));
        Check.same("last", 200, () -> full.reasonValue(199, 11, 7));
        Doc.promise(32, "Returns the value, as it was when the payment was made.");
        FraudSieve y = Scenes.withAccounts(3);
        y.addRule(y.addEither(y.addTest('d', 1, true, 0), y.addTest('q', 1, true, 0)), 1);
        y.pay(0, 1, 1);
        y.setMarked(0, true);
        y.pass(1440);
        y.pay(0, 1, 1);
        y.setMarked(1, true);
        y.scoreNow(0);
        Check.same("no account is marked", 99, () -> y.reasonValue(0, 0, 0));
        Check.same("no payment before", 99999, () -> y.reasonValue(0, 0, 1));
        Check.same("the payer is marked", 1, () -> y.reasonValue(1, 0, 0));
        Check.same("a payment before", 1440, () -> y.reasonValue(1, 0, 1));
        Doc.promise(32, "Throws `NoSuchElementException` if there is no such payment");
        Refused.payments((z, payment) -> z.reasonValue(payment, 0, 0));
        Doc.promise(32, "Throws `IndexOutOfBoundsException` if there is no such reason or test");
        noSuchReason((z, payment, reason) -> z.reasonValue(payment, reason, 0));
        noSuchTest((z, reason, test) -> z.reasonValue(0, reason, test));
        Refused.outside(0, 7, Check.INDEX, ReasonPromises::withMostReasons,
                (z, test) -> z.reasonValue(199, 11, test));
    }
}
