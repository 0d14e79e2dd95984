/** Promises 23 to 32: rules, scores and reasons. */
public final class RuleTest {
    public static void main(String[] args) {
        addRule();
        setRule();
        threshold();
        scores();
        reasonTests();
        repeatedTests();
        frozenReasons();
        wrongInputs();
        Check.finish();
    }

    private static FraudSieve withAccounts() {
        FraudSieve x = new FraudSieve();
        x.open('a');
        x.open('b');
        x.open('c');
        return x;
    }

    private static void addRule() {
        FraudSieve x = withAccounts();
        Check.fails("23 no condition", Check.INDEX, () -> x.addRule(0, 0));
        int always = x.addTest('n', 1, true, 0);
        for (int wrong : new int[] {-1, 1, Integer.MIN_VALUE, Integer.MAX_VALUE}) {
            Check.fails("23 condition", Check.INDEX, () -> x.addRule(wrong, 0));
        }
        for (int weight : new int[] {0, -1, 101, Integer.MIN_VALUE, Integer.MAX_VALUE}) {
            Check.fails("23 weight " + weight, Check.ARGUMENT, () -> x.addRule(always, weight));
        }
        for (int i = 0; i < 12; i++) {
            int rule = i;
            Check.same("23 number", rule, () -> x.addRule(always, rule == 0 ? 1 : 100));
        }
        Check.fails("23 full", Check.STATE, () -> x.addRule(always, 1));
        Check.fails("23 weight before full", Check.ARGUMENT, () -> x.addRule(always, 0));
        Check.fails("23 condition before full", Check.INDEX, () -> x.addRule(7, 0));
        x.pay(0, 1, 5);
        Check.same("26 all rules", 1101, () -> x.score(0));
        Check.same("28 all rules", 12, () -> x.reasons(0));
        Check.same("29 last", 11, () -> x.reasonRule(0, 11));
        Check.fails("29 none behind", Check.INDEX, () -> x.reasonRule(0, 12));
    }

    private static void setRule() {
        FraudSieve x = withAccounts();
        Check.fails("24 none", Check.INDEX, () -> x.setRule(0, true));
        int always = x.addTest('n', 1, true, 1);
        x.addRule(always, 10);
        x.addRule(always, 20);
        Check.same("24 on at first", true, () -> x.setRule(0, false));
        Check.same("24 off", false, () -> x.setRule(0, false));
        x.pay(0, 1, 5);
        Check.same("26 without the one that is off", 20, () -> x.score(0));
        Check.same("29 the other one", 1, () -> x.reasonRule(0, 0));
        Check.same("24 off before", false, () -> x.setRule(0, true));
        Check.same("24 on before", true, () -> x.setRule(0, true));
        Check.same("26 kept", 20, () -> x.score(0));
        Check.same("27 now", 30, () -> x.scoreNow(0));
        x.pay(0, 1, 5);
        Check.same("26 both", 30, () -> x.score(1));
        for (int wrong : new int[] {-1, 2, 32, Integer.MIN_VALUE, Integer.MAX_VALUE}) {
            Check.fails("24 rule", Check.INDEX, () -> x.setRule(wrong, false));
        }
    }

    private static void threshold() {
        FraudSieve x = withAccounts();
        x.addRule(x.addTest('n', 1, true, 1), 50);
        x.pay(0, 1, 5);
        Check.same("25 equal to the first threshold", 'o', () -> x.alertOf(0));
        Check.same("25 first", 50, () -> x.setThreshold(51));
        x.pay(0, 1, 5);
        Check.same("25 less than the threshold", '-', () -> x.alertOf(1));
        Check.same("25 alerts stay", 'o', () -> x.alertOf(0));
        Check.same("25 before", 51, () -> x.setThreshold(1));
        Check.same("25 none is made later", '-', () -> x.alertOf(1));
        Check.same("25 least", 1, () -> x.setThreshold(1201));
        for (int wrong : new int[] {0, -1, 1202, Integer.MIN_VALUE, Integer.MAX_VALUE}) {
            Check.fails("25 threshold", Check.ARGUMENT, () -> x.setThreshold(wrong));
        }
        x.pay(0, 1, 5);
        Check.same("25 greatest", '-', () -> x.alertOf(2));
        Check.same("25 greatest", 1201, () -> x.setThreshold(49));
        x.setRule(0, false);
        x.setThreshold(1);
        x.pay(0, 1, 5);
        Check.same("37 a score of 0 makes no alert", '-', () -> x.alertOf(3));
    }

    private static void scores() {
        FraudSieve x = withAccounts();
        x.pay(0, 1, 5);
        int near = x.addTest('d', 1, false, 1);
        int large = x.addTest('m', 1, true, 100);
        x.addRule(near, 7);
        x.addRule(large, 30);
        Check.same("26 rules came later", 0, () -> x.score(0));
        Check.same("27 no mark", 0, () -> x.scoreNow(0));
        x.setMarked(0, true);
        Check.same("27 by marks now", 7, () -> x.scoreNow(0));
        x.pay(1, 2, 100);
        Check.same("26 by marks then", 30, () -> x.score(1));
        x.pay(2, 1, 5);
        Check.same("26 one link off", 7, () -> x.score(2));
        x.setMarked(0, false);
        Check.same("26 stays", 7, () -> x.score(2));
        Check.same("27 by marks now", 0, () -> x.scoreNow(2));
        Check.same("26 unchanged by 27", 7, () -> x.score(2));
        Check.same("27 changes no reasons", 1, () -> x.reasons(2));
        x.pay(2, 1, 200);
        Check.same("27 no later payments", 0, () -> x.scoreNow(2));
    }

    private static void reasonTests() {
        FraudSieve x = withAccounts();
        x.addTest('s', 60, true, 100);
        x.addTest('m', 60, false, 50);
        x.addTest('n', 60, true, 1);
        x.addEither(0, 1);
        x.addBoth(2, 3);
        x.addNot(0);
        x.addEither(5, 4);
        x.addEither(6, 0);
        x.addRule(7, 1);
        x.addRule(5, 2);
        x.addRule(0, 4);
        x.addRule(3, 8);
        x.pay(0, 1, 40);
        Check.same("26", 1 + 2 + 8, () -> x.score(0));
        Check.same("28", 3, () -> x.reasons(0));
        Check.same("29", 0, () -> x.reasonRule(0, 0));
        Check.same("29", 1, () -> x.reasonRule(0, 1));
        Check.same("29", 3, () -> x.reasonRule(0, 2));
        Check.same("30 those that hold", 2, () -> x.reasonTests(0, 0));
        Check.same("30 a not has none", 0, () -> x.reasonTests(0, 1));
        Check.fails("31 a not has none", Check.INDEX, () -> x.reasonFeature(0, 1, 0));
        Check.fails("32 a not has none", Check.INDEX, () -> x.reasonValue(0, 1, 0));
        test(x, 0, 0, 0, 'n', 1);
        test(x, 0, 0, 1, 'm', 40);
        test(x, 0, 2, 0, 'm', 40);
        Check.fails("31 the second one does not hold", Check.INDEX,
                () -> x.reasonFeature(0, 2, 1));
        x.pay(0, 1, 60);
        Check.same("29", 2, () -> x.reasonRule(1, 1));
        Check.same("30", 3, () -> x.reasonTests(1, 0));
        test(x, 1, 0, 0, 'n', 2);
        test(x, 1, 0, 1, 's', 100);
        test(x, 1, 0, 2, 's', 100);
        test(x, 1, 1, 0, 's', 100);
        test(x, 1, 2, 0, 's', 100);
        test(x, 0, 0, 1, 'm', 40);
    }

    private static void test(FraudSieve x, int payment, int reason, int test, char feature,
            int value) {
        String of = " of " + payment + ", " + reason + ", " + test;
        Check.same("31" + of, feature, () -> x.reasonFeature(payment, reason, test));
        Check.same("32" + of, value, () -> x.reasonValue(payment, reason, test));
    }

    private static void repeatedTests() {
        FraudSieve x = withAccounts();
        x.addTest('m', 1, true, 10);
        x.addTest('n', 1, true, 1);
        x.addEither(0, 1);
        x.addEither(2, 2);
        x.addBoth(3, 3);
        x.addRule(4, 5);
        x.pay(0, 1, 9);
        Check.same("30 one of each pair", 4, () -> x.reasonTests(0, 0));
        x.pay(0, 1, 11);
        Check.same("30 all", 8, () -> x.reasonTests(1, 0));
        for (int i = 0; i < 8; i++) {
            test(x, 1, 0, i, i % 2 == 0 ? 'm' : 'n', i % 2 == 0 ? 11 : 2);
        }
        Check.fails("31 none behind", Check.INDEX, () -> x.reasonFeature(1, 0, 8));
        Check.fails("32 none behind", Check.INDEX, () -> x.reasonValue(1, 0, 8));
        Check.fails("32 none behind", Check.INDEX, () -> x.reasonValue(0, 0, 4));
    }

    private static void frozenReasons() {
        FraudSieve x = withAccounts();
        x.addTest('d', 1, false, 99);
        x.addTest('d', 1, false, 1);
        x.addEither(0, 1);
        x.addRule(2, 60);
        x.pay(0, 1, 5);
        test(x, 0, 0, 0, 'd', 99);
        x.setMarked(0, true);
        x.setRule(0, false);
        x.addRule(0, 3);
        Check.same("28 stays", 1, () -> x.reasons(0));
        Check.same("29 stays", 0, () -> x.reasonRule(0, 0));
        Check.same("30 stays", 1, () -> x.reasonTests(0, 0));
        test(x, 0, 0, 0, 'd', 99);
        Check.same("16 is by the marks now", 1, () -> x.valueOf(0, 'd', 1));
        Check.same("27 is by the rules now", 3, () -> x.scoreNow(0));
        Check.same("21 is by the marks now", true, () -> x.holds(1, 0));
        test(x, 0, 0, 0, 'd', 99);
        x.pay(2, 0, 5);
        test(x, 1, 0, 0, 'd', 0);
    }

    private static void wrongInputs() {
        FraudSieve x = withAccounts();
        x.addRule(x.addTest('n', 1, true, 1), 60);
        x.pay(0, 1, 5);
        for (int wrong : new int[] {-1, 1, 32, Integer.MIN_VALUE, Integer.MAX_VALUE}) {
            Check.fails("26 payment", Check.ELEMENT, () -> x.score(wrong));
            Check.fails("27 payment", Check.ELEMENT, () -> x.scoreNow(wrong));
            Check.fails("28 payment", Check.ELEMENT, () -> x.reasons(wrong));
            Check.fails("29 payment", Check.ELEMENT, () -> x.reasonRule(wrong, 5));
            Check.fails("30 payment", Check.ELEMENT, () -> x.reasonTests(wrong, 5));
            Check.fails("31 payment", Check.ELEMENT, () -> x.reasonFeature(wrong, 5, 5));
            Check.fails("32 payment", Check.ELEMENT, () -> x.reasonValue(wrong, 5, 5));
            Check.fails("29 reason", Check.INDEX, () -> x.reasonRule(0, wrong));
            Check.fails("30 reason", Check.INDEX, () -> x.reasonTests(0, wrong));
            Check.fails("31 reason", Check.INDEX, () -> x.reasonFeature(0, wrong, 0));
            Check.fails("32 reason", Check.INDEX, () -> x.reasonValue(0, wrong, 0));
            Check.fails("31 test", Check.INDEX, () -> x.reasonFeature(0, 0, wrong));
            Check.fails("32 test", Check.INDEX, () -> x.reasonValue(0, 0, wrong));
        }
        x.setRule(0, false);
        x.pay(0, 1, 5);
        Check.same("28 none", 0, () -> x.reasons(1));
        Check.fails("29 none", Check.INDEX, () -> x.reasonRule(1, 0));
    }
}
