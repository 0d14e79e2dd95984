/** Promises 17 to 22, and the terms about conditions. */
final class ConditionPromises {
    private static final String FEATURES = "nsmlrcigkdfqa";

    private interface Join {
        int add(FraudSieve x, int first, int second);
    }

    private ConditionPromises() {
    }

    static void run() {
        termsOfKinds();
        termsOfTests();
        termsOfSizes();
        addTest();
        addTestThatIsRefused();
        Doc.promise(18, "Adds a condition that holds if two others hold.");
        join(18, FraudSieve::addBoth, false, false, false, true);
        Doc.promise(19, "Adds a condition that holds if one or both of two others hold.");
        join(19, FraudSieve::addEither, false, true, true, true);
        addNot();
        holds();
        sizeOf();
    }

    private static void holds(FraudSieve x, int condition, boolean due) {
        Check.same("condition " + condition, due, () -> x.holds(condition, 0));
    }

    private static void termsOfKinds() {
        Doc.term("Conditions. At most 30 conditions have the numbers 0, 1, 2 and so on.");
        FraudSieve x = Scenes.withPayment(100);
        for (int i = 0; i < 30; i++) {
            int number = i;
            Check.same("number", number, () -> x.addTest('m', 1, false, 85 + number));
        }
        for (int number = 0; number < 30; number++) {
            holds(x, number, number >= 15);
        }
        Check.fails("one more", Check.STATE, () -> x.addTest('m', 1, false, 1));
        Doc.term("A condition is a test, which holds if the value of its feature in its window is"
                + " at least, or at most, its bound;");
        for (int bound : new int[] {0, 99, 100, 101, 99999}) {
            FraudSieve y = Scenes.withPayment(100);
            y.addTest('s', 1, true, bound);
            y.addTest('s', 1, false, bound);
            holds(y, 0, bound <= 100);
            holds(y, 1, bound >= 100);
        }
        Doc.term("or it joins two others, and holds if both hold, or if one of them holds;");
        FraudSieve y = withNoAndYes();
        y.addBoth(0, 1);
        y.addEither(0, 1);
        holds(y, 2, false);
        holds(y, 3, true);
        Doc.term("or it holds if another one does not.");
        y.addNot(0);
        y.addNot(1);
        holds(y, 4, true);
        holds(y, 5, false);
    }

    /** A payment of 100 for which the condition 0 does not hold, and the condition 1 does. */
    private static FraudSieve withNoAndYes() {
        FraudSieve x = Scenes.withPayment(100);
        x.addTest('s', 1, true, 101);
        x.addTest('m', 1, true, 100);
        return x;
    }

    private static void termsOfTests() {
        Doc.term("The tests of a condition are itself, if it is a test, or the tests of the"
                + " conditions that it joins, those of the first one first, and twice if it is"
                + " joined with itself;");
        testsOf("n", (x, n) -> n);
        testsOf("ns", (x, n) -> x.addBoth(n, n + 1));
        testsOf("sn", (x, n) -> x.addBoth(n + 1, n));
        testsOf("ns", (x, n) -> x.addEither(n, n + 1));
        testsOf("sn", (x, n) -> x.addEither(n + 1, n));
        testsOf("nn", (x, n) -> x.addBoth(n, n));
        testsOf("ss", (x, n) -> x.addEither(n + 1, n + 1));
        testsOf("nsm", (x, n) -> x.addBoth(x.addEither(n, n + 1), n + 2));
        testsOf("mns", (x, n) -> x.addEither(n + 2, x.addBoth(n, n + 1)));
        testsOf("nsmnnsmn", (x, n) -> {
            int both = x.addBoth(x.addBoth(n, n + 1), x.addEither(n + 2, n));
            return x.addEither(both, both);
        });
        Doc.term("a condition that holds if another one does not has no tests.");
        testsOf("", (x, n) -> x.addNot(x.addNot(n)));
        testsOf("", (x, n) -> x.addNot(x.addNot(x.addBoth(n, n + 1))));
        testsOf("n", (x, n) -> x.addBoth(n, x.addNot(x.addNot(n + 1))));
        testsOf("s", (x, n) -> x.addEither(x.addNot(n), n + 1));
        testsOf("", (x, n) -> x.addEither(x.addNot(x.addNot(n)), x.addNot(n)));
    }

    /** The features of the tests of a condition that is made of three tests, n, s and m. */
    private static void testsOf(String due, Refused.AskNumber add) {
        FraudSieve x = Scenes.withAccounts(2);
        int first = x.addTest('n', 1, true, 1);
        x.addTest('s', 1, true, 1);
        x.addTest('m', 1, true, 1);
        int condition = (Integer) add.of(x, first);
        x.addRule(condition, 1);
        x.pay(0, 1, 1);
        Check.same("holds " + due, 1, () -> x.reasons(0));
        Check.same("tests " + due, due.length(), () -> x.reasonTests(0, 0));
        for (int i = 0; i < due.length(); i++) {
            int test = i;
            Check.same("test " + i, due.charAt(i), () -> x.reasonFeature(0, 0, test));
        }
        Check.fails("no more", Check.INDEX, () -> x.reasonFeature(0, 0, due.length()));
    }

    private static void termsOfSizes() {
        Doc.term("The size of a condition is 1 for a test, and 1 more than the sizes of the"
                + " conditions by which it is made, added up, for another one;");
        FraudSieve x = withNoAndYes();
        Check.same("test", 1, () -> x.sizeOf(0));
        Check.same("both", 3, () -> x.sizeOf(x.addBoth(0, 1)));
        Check.same("either, with itself", 3, () -> x.sizeOf(x.addEither(1, 1)));
        Check.same("not", 2, () -> x.sizeOf(x.addNot(0)));
        Check.same("of a join and a not", 6, () -> x.sizeOf(x.addBoth(2, 4)));
        Check.same("of a not and a join", 6, () -> x.sizeOf(x.addEither(4, 2)));
        Check.same("not a join", 4, () -> x.sizeOf(x.addNot(3)));
        Check.same("joins with themselves", 13, () -> x.sizeOf(x.addBoth(5, 6)));
        Doc.term("it is at most 15.");
        FraudSieve y = Scenes.SIZES.make();
        for (int i = 0; i < 15; i++) {
            int condition = i;
            Check.same("condition " + i, condition + 1, () -> y.sizeOf(condition));
            holds(y, condition, condition % 2 == 0);
        }
        Check.fails("over 15", Check.UNSUPPORTED, () -> y.addNot(14));
        Check.same("the next number", 15, () -> y.addNot(13));
        Check.same("exactly 15", 15, () -> y.sizeOf(15));
    }

    private static void addTest() {
        Doc.promise(17, "Adds a condition that is a test.");
        FraudSieve x = Scenes.withPayment(100);
        x.addTest('s', 1, true, 100);
        Check.same("size", 1, () -> x.sizeOf(0));
        holds(x, 0, true);
        Doc.promise(17, "`feature`: the letter of its feature");
        int[] dueValues = {1, 100, 100, 0, 1, 1, 0, 2, 0, 99, 1, 99999, 0};
        for (int i = 0; i < FEATURES.length(); i++) {
            FraudSieve y = Scenes.withPayment(100);
            y.addTest(FEATURES.charAt(i), 1, true, dueValues[i]);
            y.addTest(FEATURES.charAt(i), 1, false, dueValues[i]);
            y.addBoth(0, 1);
            holds(y, 2, true);
        }
        Doc.promise(17, "`window`: its window in minutes, 1 to 10080");
        FraudSieve y = Scenes.withAccounts(2);
        y.pay(0, 1, 1);
        Scenes.pass(y, 10079);
        y.pay(0, 1, 1);
        for (int window : new int[] {1, 10079, 10080}) {
            int test = y.addTest('n', window, true, 2);
            Check.same("in " + window, window == 10080, () -> y.holds(test, 1));
        }
        Doc.promise(17, "`isAtLeast`: true if the value must be at least the bound,"
                + " false if at most");
        FraudSieve z = Scenes.withPayment(100);
        for (int bound : new int[] {99, 100, 101}) {
            int atLeast = z.addTest('m', 1, true, bound);
            int atMost = z.addTest('m', 1, false, bound);
            Check.same("at least " + bound, bound <= 100, () -> z.holds(atLeast, 0));
            Check.same("at most " + bound, bound >= 100, () -> z.holds(atMost, 0));
        }
        addTestBounds();
        Doc.promise(17, "Returns the number of the condition.");
        Check.same("first", 0, () -> new FraudSieve().addTest('n', 1, true, 1));
        Check.same("next", 6, () -> z.addTest('n', 1, true, 1));
    }

    private static void addTestBounds() {
        Doc.promise(17, "`bound`: the bound, 0 to 99999");
        FraudSieve x = Scenes.withPayment(100);
        x.addTest('k', 1, true, 0);
        x.addTest('k', 1, false, 0);
        x.addTest('n', 1, false, 0);
        x.addTest('q', 1, true, 99999);
        x.addTest('q', 1, false, 99999);
        x.addTest('q', 1, false, 99998);
        boolean[] due = {true, true, false, true, true, false};
        for (int condition = 0; condition < due.length; condition++) {
            holds(x, condition, due[condition]);
        }
        FraudSieve large = Scenes.withAccounts(2);
        for (int payment = 0; payment < 11; payment++) {
            large.pay(0, 1, 9999);
        }
        large.addTest('s', 1, true, 99999);
        large.addTest('s', 1, false, 99999);
        Check.same("99990", false, () -> large.holds(0, 9));
        Check.same("99990", true, () -> large.holds(1, 9));
        Check.same("109989", true, () -> large.holds(0, 10));
        Check.same("109989", false, () -> large.holds(1, 10));
    }

    private static void addTestThatIsRefused() {
        Doc.promise(17, "Throws `IllegalArgumentException` if there is no such feature, or the"
                + " window or the bound is out of range");
        int[] signs = {'a' - 1, 'b', 'e', 'h', 'j', 'o', 'p', 't', 'z', 'N', 0, 'n' + 256, 65535};
        for (int sign : signs) {
            Refused.call("sign " + sign, Check.ARGUMENT, Scenes.MIXED,
                    x -> x.addTest((char) sign, 1, true, 1));
        }
        Scenes.Scene[] scenes = {Scenes.EMPTY, Scenes.MIXED, Scenes.FULL};
        for (Scenes.Scene scene : scenes) {
            Refused.windows(scene, (x, window) -> x.addTest('n', window, true, 1));
            Refused.windows(scene, (x, window) -> x.addTest('f', window, false, 1));
            Refused.outside(0, 99999, Check.ARGUMENT, scene,
                    (x, bound) -> x.addTest('n', 1, true, bound));
            Refused.outside(0, 99999, Check.ARGUMENT, scene,
                    (x, bound) -> x.addTest('q', 10080, false, bound));
        }
        Doc.promise(17, "Throws `IllegalStateException` if there are 30 conditions");
        Check.same("the 30th", 29, () -> withConditions(29).addTest('n', 1, true, 1));
        Refused.call("the 31st", Check.STATE, Scenes.FULL, x -> x.addTest('n', 1, true, 1));
        Refused.call("the 31st", Check.STATE, Scenes.FULL, x -> x.addTest('a', 10080, false, 0));
    }

    private static FraudSieve withConditions(int count) {
        FraudSieve x = Scenes.withPayment(100);
        for (int condition = 0; condition < count; condition++) {
            x.addTest('n', 1, true, 1);
        }
        return x;
    }

    /** What is promised of a join, which holds as due if none, one or both hold. */
    private static void join(int promise, Join join, boolean... due) {
        FraudSieve x = withNoAndYes();
        for (int i = 0; i < 4; i++) {
            int condition = join.add(x, i / 2, i % 2);
            holds(x, condition, due[i]);
        }
        Doc.promise(promise, "`first`: the number of a condition");
        FraudSieve full = Scenes.withPayment(100);
        full.addTest('m', 1, true, 100);
        for (int i = 1; i < 28; i++) {
            full.addTest('m', 1, true, 101);
        }
        Check.same("first one and another", 28, () -> join.add(full, 0, 27));
        holds(full, 28, due[1]);
        Check.same("last one and another", 29, () -> join.add(full, 28, 0));
        holds(full, 29, due[1]);
        Doc.promise(promise, "`second`: the number of a condition, which can be the same one");
        FraudSieve same = withNoAndYes();
        join.add(same, 0, 0);
        join.add(same, 1, 1);
        join.add(same, 3, 3);
        holds(same, 2, false);
        holds(same, 3, true);
        holds(same, 4, true);
        Doc.promise(promise, "Returns the number of the condition.");
        Check.same("next", 5, () -> join.add(same, 4, 1));
        joinThatIsRefused(promise, join);
    }

    private static void joinThatIsRefused(int promise, Join join) {
        Doc.promise(promise, "Throws `IndexOutOfBoundsException` if there is no such condition,"
                + " for either");
        Refused.conditions((x, condition) -> join.add(x, condition, 0));
        Refused.conditions((x, condition) -> join.add(x, 0, condition));
        Refused.conditions((x, condition) -> join.add(x, condition, condition));
        Doc.promise(promise, "Throws `UnsupportedOperationException` if its size would be greater"
                + " than 15");
        for (int first = 1; first <= 15; first++) {
            for (int second = 1; second <= 15; second++) {
                joinOfSizes(join, first, second);
            }
        }
        Doc.promise(promise, "Throws `IllegalStateException` if there are 30 conditions");
        Check.same("the 30th", 29, () -> join.add(withConditions(29), 0, 28));
        Refused.call("the 31st", Check.STATE, Scenes.FULL, x -> join.add(x, 0, 29));
        Refused.call("the 31st", Check.STATE, Scenes.FULL, x -> join.add(x, 29, 29));
    }

    private static void joinOfSizes(Join join, int first, int second) {
        String label = "of " + first + " and " + second;
        if (1 + first + second > 15) {
            Refused.call(label, Check.UNSUPPORTED, Scenes.SIZES,
                    x -> join.add(x, first - 1, second - 1));
        } else {
            FraudSieve x = Scenes.SIZES.make();
            Check.same(label, 15, () -> join.add(x, first - 1, second - 1));
            Check.same(label, 1 + first + second, () -> x.sizeOf(15));
        }
    }

    private static void addNot() {
        Doc.promise(20, "Adds a condition that holds if another one does not.");
        FraudSieve x = withNoAndYes();
        x.addNot(0);
        x.addNot(1);
        x.addNot(3);
        holds(x, 2, true);
        holds(x, 3, false);
        holds(x, 4, true);
        Doc.promise(20, "`other`: the number of a condition");
        FraudSieve full = withConditions(29);
        Check.same("last", 29, () -> full.addNot(28));
        holds(full, 29, false);
        Check.same("first", 1, () -> withConditions(1).addNot(0));
        Doc.promise(20, "Returns the number of the condition.");
        Check.same("next", 5, () -> x.addNot(4));
        Doc.promise(20, "Throws `IndexOutOfBoundsException` if there is no such condition");
        Refused.conditions(FraudSieve::addNot);
        Doc.promise(20, "Throws `UnsupportedOperationException` if its size would be greater"
                + " than 15");
        Refused.call("of 15", Check.UNSUPPORTED, Scenes.SIZES, y -> y.addNot(14));
        for (int size = 1; size <= 14; size++) {
            int condition = size - 1;
            Check.same("of " + size, 15, () -> Scenes.SIZES.make().addNot(condition));
        }
        Doc.promise(20, "Throws `IllegalStateException` if there are 30 conditions");
        Check.same("the 30th", 29, () -> withConditions(29).addNot(0));
        Refused.call("the 31st", Check.STATE, Scenes.FULL, y -> y.addNot(0));
        Refused.call("the 31st", Check.STATE, Scenes.FULL, y -> y.addNot(29));
    }

    private static void holds() {
        Doc.promise(21, "Returns whether a condition holds for a payment.");
        FraudSieve x = withNoAndYes();
        x.pay(0, 1, 1);
        Check.same("of the payment", false, () -> x.holds(0, 0));
        Check.same("of another payment", true, () -> x.holds(0, 1));
        Check.same("of the payment, again", false, () -> x.holds(0, 0));
        Doc.promise(21, "`condition`: the number of the condition");
        FraudSieve full = Scenes.FULL.make();
        Check.same("first", true, () -> full.holds(0, 199));
        Check.same("last", false, () -> full.holds(29, 199));
        Doc.promise(21, "`payment`: the number of the payment");
        Check.same("first", false, () -> full.holds(0, 0));
        Check.same("first", true, () -> full.holds(29, 0));
        Doc.promise(21, "Returns whether it does; for the feature 'd' by the accounts that are"
                + " marked now.");
        FraudSieve y = Scenes.withPayment(100);
        y.addTest('d', 1, false, 1);
        y.addNot(0);
        y.addEither(0, 0);
        holdByMarks(y, false);
        y.setMarked(0, true);
        holdByMarks(y, true);
        y.setMarked(0, false);
        holdByMarks(y, false);
        Doc.promise(21, "Throws `IndexOutOfBoundsException` if there is no such condition");
        Refused.conditions((z, condition) -> z.holds(condition, 0));
        Doc.promise(21, "Throws `NoSuchElementException` if there is no such payment");
        Refused.paymentsOfSome((z, payment) -> z.holds(0, payment));
        Refused.outside(0, -1, Check.ELEMENT, ConditionPromises::withOneTest,
                (z, payment) -> z.holds(0, payment));
    }

    private static void holdByMarks(FraudSieve x, boolean isNear) {
        holds(x, 0, isNear);
        holds(x, 1, !isNear);
        holds(x, 2, isNear);
    }

    private static FraudSieve withOneTest() {
        FraudSieve x = new FraudSieve();
        x.addTest('n', 1, true, 1);
        return x;
    }

    private static void sizeOf() {
        Doc.promise(22, "Returns the size of a condition.");
        FraudSieve x = Scenes.SIZES.make();
        Check.same("a test", 1, () -> x.sizeOf(0));
        Check.same("another one", 7, () -> x.sizeOf(6));
        Doc.promise(22, "`condition`: the number of the condition");
        FraudSieve full = Scenes.FULL.make();
        Check.same("first", 1, () -> full.sizeOf(0));
        Check.same("last", 1, () -> full.sizeOf(29));
        Check.same("between", 14, () -> full.sizeOf(21));
        Doc.promise(22, "Returns the size.");
        Check.same("greatest", 15, () -> full.sizeOf(15));
        Check.same("least", 1, () -> full.sizeOf(22));
        Doc.promise(22, "Throws `IndexOutOfBoundsException` if there is no such condition");
        Refused.conditions(FraudSieve::sizeOf);
    }
}
