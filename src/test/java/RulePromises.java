/** Promises 23 to 27, and the first terms about rules. */
final class RulePromises {
    private RulePromises() {
    }

    static void run() {
        introduction();
        termsOfRules();
        addRule();
        setRule();
        setThreshold();
        score();
        scoreNow();
    }

    private static void introduction() {
        Doc.term("Accounts pay each other as time goes by; each payment is looked at by rules,"
                + " which are conditions with weights over features of the payment, its payer and"
                + " the payments around it;");
        FraudSieve x = Scenes.withAccounts(3);
        x.addRule(x.addTest('l', 60, true, 2), 60);
        x.addRule(x.addTest('n', 60, true, 2), 5);
        x.pay(0, 1, 950);
        x.pass(59);
        x.pay(0, 1, 990);
        x.pass(60);
        x.pay(0, 1, 990);
        Check.same("the first one", 0, () -> x.score(0));
        Check.same("the second one", 65, () -> x.score(1));
        Check.same("later", 0, () -> x.score(2));
        Doc.term("what is suspicious becomes an alert with its reasons, and somebody decides"
                + " on it.");
        Check.same("open", 1, x::nextAlert);
        Check.same("reasons", 2, () -> x.reasons(1));
        Check.same("decided", 0, () -> x.decide(1, true));
        Doc.term("Rings and groups of accounts are found in the payments of a window.");
        x.pay(1, 2, 1);
        Check.same("group", 3, () -> x.group(0, 1));
        x.pay(2, 0, 1);
        Check.same("ring", 3, () -> x.ring(0, 1));
        Doc.term("The score of a payment is always the sum of the weights of its reasons.");
        int[] weights = {1, 99, 98, 97, 96, 95, 94, 93, 92, 91, 90, 89};
        for (int i = 0; i < 200; i++) {
            FraudSieve full = Scenes.FULL.make();
            int payment = i;
            int sum = 0;
            for (int reason = 0; reason < full.reasons(payment); reason++) {
                sum += weights[full.reasonRule(payment, reason)];
            }
            Check.same("score of " + payment, sum, () -> full.score(payment));
        }
    }

    private static void termsOfRules() {
        Doc.term("Rules. At most 12 rules have the numbers 0, 1, 2 and so on.");
        FraudSieve x = Scenes.withAccounts(2);
        int always = x.addTest('n', 1, true, 0);
        for (int i = 0; i < 12; i++) {
            int rule = i;
            Check.same("number", rule, () -> x.addRule(always, rule + 1));
        }
        Check.fails("one more", Check.STATE, () -> x.addRule(always, 1));
        x.pay(0, 1, 5);
        Check.same("all", 1 + 2 + 3 + 4 + 5 + 6 + 7 + 8 + 9 + 10 + 11 + 12, () -> x.score(0));
        Doc.term("A rule has a condition and a weight, and is on or off, at first on.");
        FraudSieve y = Scenes.withAccounts(2);
        y.addTest('m', 1, true, 10);
        y.addTest('m', 1, true, 11);
        y.addRule(1, 100);
        y.addRule(0, 1);
        y.addRule(0, 20);
        y.setRule(2, false);
        y.pay(0, 1, 10);
        Check.same("its condition and weight, those that are on", 1, () -> y.score(0));
        y.setRule(2, true);
        y.pay(0, 1, 11);
        Check.same("all are on", 121, () -> y.score(1));
        Check.same("on at first", true, () -> y.setRule(0, true));
    }

    private static void addRule() {
        Doc.promise(23, "Adds a rule.");
        FraudSieve x = withTwoTests();
        x.addRule(0, 60);
        x.pay(0, 1, 1);
        Check.same("weighs", 60, () -> x.score(0));
        Doc.promise(23, "`condition`: the number of its condition");
        FraudSieve full = Scenes.withAccounts(2);
        for (int condition = 0; condition < 30; condition++) {
            full.addTest('m', 1, true, condition == 29 ? 1 : 2);
        }
        full.addRule(0, 1);
        full.addRule(29, 2);
        full.pay(0, 1, 1);
        Check.same("last", 2, () -> full.score(0));
        full.pass(1);
        full.pay(0, 1, 2);
        Check.same("first and last", 3, () -> full.score(1));
        Doc.promise(23, "`weight`: its weight, 1 to 100");
        for (int weight : new int[] {1, 2, 99, 100}) {
            FraudSieve y = withTwoTests();
            Check.same("weight", 0, () -> y.addRule(0, weight));
            y.pay(0, 1, 1);
            Check.same("weight", weight, () -> y.score(0));
        }
        Doc.promise(23, "Returns the number of the rule.");
        Check.same("second", 1, () -> x.addRule(0, 60));
        Check.same("third, of another condition", 2, () -> x.addRule(1, 60));
        Doc.promise(23, "Throws `IndexOutOfBoundsException` if there is no such condition");
        Refused.conditions((y, condition) -> y.addRule(condition, 1));
        Doc.promise(23, "Throws `IllegalArgumentException` if the weight is out of range");
        Refused.outside(1, 100, Check.ARGUMENT, Scenes.MIXED, (y, weight) -> y.addRule(0, weight));
        Refused.outside(1, 100, Check.ARGUMENT, Scenes.FULL, (y, weight) -> y.addRule(29, weight));
        Doc.promise(23, "Throws `IllegalStateException` if there are 12 rules");
        Check.same("the 12th", 11, () -> withRules(11).addRule(0, 1));
        Refused.call("the 13th", Check.STATE, () -> withRules(12), y -> y.addRule(0, 1));
        Refused.call("the 13th", Check.STATE, Scenes.FULL, y -> y.addRule(0, 1));
        Refused.call("the 13th", Check.STATE, Scenes.FULL, y -> y.addRule(29, 100));
    }

    /** Test 0 holds for each payment, test 1 for one of 100 or more. */
    private static FraudSieve withTwoTests() {
        FraudSieve x = Scenes.withAccounts(20);
        x.addTest('n', 1, true, 1);
        x.addTest('m', 1, true, 100);
        return x;
    }

    /** The weights are 1, 2, 3 and so on, and all rules become reasons. */
    private static FraudSieve withRules(int count) {
        FraudSieve x = withTwoTests();
        for (int rule = 0; rule < count; rule++) {
            x.addRule(0, rule + 1);
        }
        return x;
    }

    private static void setRule() {
        Doc.promise(24, "Switches a rule on or off.");
        FraudSieve x = withRules(12);
        x.setRule(4, false);
        x.pay(0, 1, 1);
        Check.same("off", 78 - 5, () -> x.score(0));
        x.setRule(4, true);
        x.pay(0, 1, 1);
        Check.same("on", 78, () -> x.score(1));
        Doc.promise(24, "`rule`: the number of the rule");
        x.setRule(0, false);
        x.pay(0, 1, 1);
        Check.same("first", 77, () -> x.score(2));
        x.setRule(11, false);
        x.pay(0, 1, 1);
        Check.same("last", 65, () -> x.score(3));
        Doc.promise(24, "`isOn`: whether it is on from now on");
        x.setRule(0, false);
        x.setRule(10, true);
        x.pay(0, 1, 1);
        Check.same("as it was", 65, () -> x.score(4));
        Check.same("not for earlier payments", 78, () -> x.score(1));
        Doc.promise(24, "Returns whether it was on before.");
        Check.same("was off, stays", false, () -> x.setRule(0, false));
        Check.same("was off, is on", false, () -> x.setRule(0, true));
        Check.same("was on, stays", true, () -> x.setRule(0, true));
        Check.same("was on, is off", true, () -> x.setRule(0, false));
        Doc.promise(24, "Throws `IndexOutOfBoundsException` if there is no such rule");
        Refused.rules((y, rule) -> y.setRule(rule, true));
        Refused.rules((y, rule) -> y.setRule(rule, false));
    }

    private static void setThreshold() {
        Doc.promise(25, "Sets the threshold; alerts that are there stay.");
        FraudSieve x = Scenes.withAccounts(2);
        x.addRule(x.addTest('n', 1, true, 1), 50);
        x.pay(0, 1, 1);
        x.setThreshold(51);
        x.pay(0, 1, 1);
        Check.same("stays", 'o', () -> x.alertOf(0));
        Check.same("less than the threshold", '-', () -> x.alertOf(1));
        x.setThreshold(49);
        Check.same("none is made later", '-', () -> x.alertOf(1));
        x.pay(0, 1, 1);
        Check.same("more than the threshold", 'o', () -> x.alertOf(2));
        Doc.promise(25, "`threshold`: the threshold, 1 to 1201");
        FraudSieve most = Scenes.withAccounts(2);
        int always = most.addTest('n', 1, true, 1);
        most.setThreshold(1);
        most.pay(0, 1, 1);
        Check.same("a score of 0", '-', () -> most.alertOf(0));
        most.addRule(always, 1);
        most.pay(0, 1, 1);
        Check.same("a score of 1", 'o', () -> most.alertOf(1));
        most.setRule(0, false);
        for (int rule = 1; rule < 12; rule++) {
            most.addRule(always, 100);
        }
        most.setThreshold(1101);
        most.pay(0, 1, 1);
        Check.same("a score of 1100", '-', () -> most.alertOf(2));
        most.setRule(0, true);
        most.pay(0, 1, 1);
        Check.same("a score of 1101", 'o', () -> most.alertOf(3));
        most.setThreshold(1201);
        most.pay(0, 1, 1);
        Check.same("no score is so great", '-', () -> most.alertOf(4));
        Doc.promise(25, "Returns the threshold before the call.");
        Check.same("first", 50, () -> new FraudSieve().setThreshold(1201));
        Check.same("greatest", 1201, () -> most.setThreshold(1));
        Check.same("least", 1, () -> most.setThreshold(1));
        Doc.promise(25, "Throws `IllegalArgumentException` if the threshold is out of range");
        Refused.outside(1, 1201, Check.ARGUMENT, Scenes.EMPTY, FraudSieve::setThreshold);
        Refused.outside(1, 1201, Check.ARGUMENT, Scenes.MIXED, FraudSieve::setThreshold);
        Refused.outside(1, 1201, Check.ARGUMENT, Scenes.FULL, FraudSieve::setThreshold);
    }

    private static void score() {
        Doc.promise(26, "Returns the score of a payment, as it is kept.");
        FraudSieve x = withTwoTests();
        x.addRule(0, 7);
        x.addRule(1, 30);
        x.pay(0, 1, 99);
        x.pay(0, 1, 100);
        x.setRule(0, false);
        x.addRule(0, 100);
        Check.same("by one rule", 7, () -> x.score(0));
        Check.same("by both", 37, () -> x.score(1));
        Doc.promise(26, "`payment`: the number of the payment");
        FraudSieve full = Scenes.FULL.make();
        Check.same("first", 188, () -> full.score(0));
        Check.same("last", 656, () -> full.score(199));
        Doc.promise(26, "Returns the score.");
        FraudSieve greatest = withTwoTests();
        greatest.pay(0, 1, 1);
        for (int rule = 0; rule < 12; rule++) {
            greatest.addRule(0, 100);
        }
        greatest.pay(0, 1, 1);
        Check.same("least", 0, () -> greatest.score(0));
        Check.same("greatest", 1200, () -> greatest.score(1));
        Doc.promise(26, "Throws `NoSuchElementException` if there is no such payment");
        Refused.payments(FraudSieve::score);
    }

    private static void scoreNow() {
        Doc.promise(27, "Returns the score that a payment would have by the rules that are on now,"
                + " and by the accounts that are marked now.");
        FraudSieve x = Scenes.withAccounts(3);
        x.pay(0, 1, 5);
        x.addRule(x.addTest('d', 1, false, 1), 7);
        x.addRule(x.addTest('m', 1, true, 5), 30);
        Check.same("by rules that came later", 30, () -> x.scoreNow(0));
        x.setMarked(0, true);
        Check.same("by a mark that came later", 37, () -> x.scoreNow(0));
        x.setRule(1, false);
        Check.same("without the one that is off", 7, () -> x.scoreNow(0));
        x.setMarked(0, false);
        Check.same("without the mark", 0, () -> x.scoreNow(0));
        x.setRule(1, true);
        x.pay(0, 1, 200);
        Check.same("not by later payments", 30, () -> x.scoreNow(0));
        Check.same("the kept one stays", 0, () -> x.score(0));
        Check.same("no reasons are made", 0, () -> x.reasons(0));
        Check.same("no alert is made", '-', () -> x.alertOf(0));
        Doc.promise(27, "`payment`: the number of the payment");
        FraudSieve full = Scenes.FULL.make();
        full.setMarked(7, false);
        Check.same("last", 656, () -> full.scoreNow(199));
        full.setRule(3, true);
        full.setRule(0, false);
        Check.same("last, by other rules", 656 + 97 - 1, () -> full.scoreNow(199));
        Check.same("first", 188, () -> full.scoreNow(0));
        Doc.promise(27, "Returns the score.");
        FraudSieve greatest = withTwoTests();
        greatest.pay(0, 1, 1);
        Check.same("least", 0, () -> greatest.scoreNow(0));
        for (int rule = 0; rule < 12; rule++) {
            greatest.addRule(0, 100);
        }
        Check.same("greatest", 1200, () -> greatest.scoreNow(0));
        Doc.promise(27, "Throws `NoSuchElementException` if there is no such payment");
        Refused.payments(FraudSieve::scoreNow);
    }
}
