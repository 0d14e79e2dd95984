/** Promises 41 to 47: what the decisions, scores and amounts come to. */
public final class ReviewTest {
    public static void main(String[] args) {
        caught();
        bestThreshold();
        greatestScore();
        precision();
        means();
        wrongInputs();
        Check.finish();
    }

    /** A payment of an amount of 10, 20, 30 or more scores 1, 11, 111. */
    private static FraudSieve withRules() {
        FraudSieve x = new FraudSieve();
        x.open('a');
        x.open('b');
        x.addRule(x.addTest('m', 1, true, 10), 1);
        x.addRule(x.addTest('m', 1, true, 20), 10);
        x.addRule(x.addTest('m', 1, true, 30), 100);
        x.setThreshold(1);
        return x;
    }

    private static void payApart(FraudSieve x, int... amounts) {
        for (int amount : amounts) {
            x.pass(1);
            x.pay(0, 1, amount);
        }
    }

    private static void best(FraudSieve x, int most, int due) {
        Check.same("42 most " + most, due, () -> x.bestThreshold(most));
        Check.same("43 most " + most, due, () -> x.bestThresholdByTrying(most));
    }

    private static void caught() {
        FraudSieve x = withRules();
        payApart(x, 10, 20, 30, 20, 30, 5);
        Check.same("41 none decided", 0, () -> x.caught(1));
        x.decide(0, true);
        x.decide(1, true);
        x.decide(2, true);
        x.decide(3, false);
        Check.same("41", 3, () -> x.caught(1));
        Check.same("41", 2, () -> x.caught(2));
        Check.same("41", 2, () -> x.caught(11));
        Check.same("41", 1, () -> x.caught(12));
        Check.same("41", 1, () -> x.caught(111));
        Check.same("41", 0, () -> x.caught(112));
        Check.same("41", 0, () -> x.caught(1201));
        x.setMarked(1, false);
        x.setRule(2, false);
        Check.same("41 by the kept scores", 1, () -> x.caught(111));
    }

    private static void bestThreshold() {
        FraudSieve x = withRules();
        best(x, 0, 1);
        payApart(x, 10, 20, 30, 20, 30, 5);
        best(x, 0, 1);
        x.decide(0, false);
        x.decide(1, false);
        x.decide(2, false);
        x.decide(3, false);
        x.decide(4, true);
        best(x, 0, 112);
        best(x, 1, 12);
        best(x, 2, 12);
        best(x, 3, 2);
        best(x, 4, 1);
        best(x, 200, 1);
    }

    private static void greatestScore() {
        FraudSieve x = new FraudSieve();
        x.open('a');
        x.open('b');
        int always = x.addTest('n', 1, true, 1);
        for (int rule = 0; rule < 12; rule++) {
            x.addRule(always, 100);
        }
        x.setThreshold(1200);
        x.pay(0, 1, 1);
        x.pay(0, 1, 1);
        Check.same("26 greatest", 1200, () -> x.score(0));
        Check.same("25 greatest", 'o', () -> x.alertOf(0));
        x.decide(0, false);
        x.decide(1, true);
        best(x, 0, 1201);
        best(x, 1, 1);
        Check.same("41 greatest", 1, () -> x.caught(1200));
        Check.same("41 over the greatest", 0, () -> x.caught(1201));
        Check.same("45 greatest", 1200.0, x::meanScore);
        Check.same("47 greatest", true, x::isSound);
    }

    private static void precision() {
        FraudSieve x = withRules();
        payApart(x, 30, 30, 20, 20, 10);
        Check.fails("44 none decided", Check.ARITHMETIC, () -> x.precision(0));
        x.decide(2, false);
        Check.same("44 no fraud", 0f, () -> x.precision(0));
        Check.fails("44 none decided with it", Check.ARITHMETIC, () -> x.precision(2));
        x.decide(0, true);
        x.decide(1, false);
        Check.same("44 all three", 1f / 3f, () -> x.precision(0));
        Check.same("44 all three", 1f / 3f, () -> x.precision(1));
        Check.same("44 two of them", 0.5f, () -> x.precision(2));
        x.setRule(2, false);
        Check.same("44 by the kept reasons", 0.5f, () -> x.precision(2));
        x.decide(3, true);
        Check.same("44 one more", 0.5f, () -> x.precision(0));
        x.decide(4, true);
        Check.same("44 one more", 3f / 5f, () -> x.precision(0));
        Check.same("44 not this rule", 0.5f, () -> x.precision(1));
        int rule = x.addRule(0, 5);
        Check.fails("44 no reason yet", Check.ARITHMETIC, () -> x.precision(rule));
    }

    private static void means() {
        FraudSieve x = withRules();
        Check.fails("45 no payments", Check.ARITHMETIC, x::meanScore);
        payApart(x, 5);
        Check.same("45 a score of 0", 0.0, x::meanScore);
        payApart(x, 30, 20);
        Check.same("45", 122.0 / 3.0, x::meanScore);
        Check.same("46", 55L, x::turnover);
        x.setRule(2, false);
        Check.same("45 by the kept scores", 122.0 / 3.0, x::meanScore);
        Check.same("47", true, x::isSound);
        for (int day = 0; day < 8; day++) {
            x.pass(1440);
            Check.same("47 later", true, x::isSound);
        }
        Check.same("46 later", 55L, x::turnover);
        Check.same("45 later", 122.0 / 3.0, x::meanScore);
    }

    private static void wrongInputs() {
        FraudSieve x = withRules();
        for (int wrong : new int[] {0, -1, 1202, Integer.MIN_VALUE, Integer.MAX_VALUE}) {
            Check.fails("41 threshold", Check.ARGUMENT, () -> x.caught(wrong));
        }
        for (int wrong : new int[] {-1, 201, Integer.MIN_VALUE, Integer.MAX_VALUE}) {
            Check.fails("42 most", Check.ARGUMENT, () -> x.bestThreshold(wrong));
            Check.fails("43 most", Check.ARGUMENT, () -> x.bestThresholdByTrying(wrong));
        }
        for (int wrong : new int[] {-1, 3, 32, Integer.MIN_VALUE, Integer.MAX_VALUE}) {
            Check.fails("44 rule", Check.INDEX, () -> x.precision(wrong));
        }
    }
}
