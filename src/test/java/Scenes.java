/** Objects in known states, which can be made again as often as a test needs them. */
final class Scenes {
    interface Scene {
        FraudSieve make();
    }

    static final Scene EMPTY = FraudSieve::new;
    static final Scene MIXED = Scenes::mixed;
    static final Scene FULL = Scenes::full;
    static final Scene SIZES = Scenes::sizes;

    private static final String FEATURES = "nsmlrcigkdfqa";

    private Scenes() {
    }

    static FraudSieve withAccounts(String countries) {
        FraudSieve x = new FraudSieve();
        for (char country : countries.toCharArray()) {
            x.open(country);
        }
        return x;
    }

    static FraudSieve withAccounts(int count) {
        return withAccounts("abcd".repeat(5).substring(0, count));
    }

    /** Lets time pass, however long, by calls that take at most a day. */
    static void pass(FraudSieve x, int minutes) {
        int left = minutes;
        for (; left > 1440; left -= 1440) {
            x.pass(1440);
        }
        x.pass(left);
    }

    /** A new account pays another one: a payment whose features are all the least ones. */
    static FraudSieve withPayment(int amount) {
        FraudSieve x = withAccounts("ab");
        x.pay(0, 1, amount);
        return x;
    }

    /**
     * Six accounts: 1 is marked, 2 blocked, 3 both. Of six payments, the first lies outside of
     * the longest window; the alerts are of all kinds: c, f, o, -, o, o.
     */
    private static FraudSieve mixed() {
        FraudSieve x = withAccounts("abcdab");
        int many = x.addTest('n', 60, true, 1);
        int near = x.addTest('d', 60, false, 1);
        int both = x.addBoth(many, near);
        int either = x.addEither(near, many);
        int not = x.addNot(near);
        int sum = x.addTest('s', 60, true, 500);
        x.addEither(both, sum);
        x.addRule(either, 30);
        x.addRule(sum, 40);
        x.addRule(not, 25);
        x.addRule(many, 100);
        x.setRule(3, false);
        x.pay(0, 1, 700);
        pass(x, 10080);
        x.pay(1, 3, 800);
        x.pass(7);
        x.pay(3, 0, 900);
        x.pass(1);
        x.setThreshold(60);
        x.pay(4, 5, 20);
        x.pay(3, 1, 950);
        x.decide(0, false);
        x.decide(1, true);
        x.pay(0, 4, 600);
        x.setMarked(1, true);
        x.setBlocked(2, true);
        x.setBlocked(3, true);
        return x;
    }

    /** 20 accounts, 200 payments (20 of them outside of the longest window), 30 conditions. */
    private static FraudSieve full() {
        FraudSieve x = withAccounts(20);
        for (char feature : FEATURES.toCharArray()) {
            x.addTest(feature, 10080, true, 3);
        }
        addNestedConditions(x);
        for (int rule = 0; rule < 12; rule++) {
            x.addRule(rule + 4, rule == 0 ? 1 : 100 - rule);
        }
        x.setRule(3, false);
        x.setMarked(7, true);
        x.setBlocked(11, true);
        x.setBlocked(11, false);
        for (int payment = 0; payment < 200; payment++) {
            if (payment == 20) {
                pass(x, 10080);
            }
            if (payment == 100) {
                x.pass(5);
            }
            if (payment == 190) {
                x.setThreshold(600);
            }
            int payer = payment % 20;
            x.pay(payer, (payer + 1 + payment % 19) % 20, 1 + payment * 49);
        }
        x.decide(x.nextAlert(), true);
        x.decide(x.nextAlert(), false);
        return x;
    }

    /** 30 conditions, 15 of the size 15, 21 of the size 14. */
    private static void addNestedConditions(FraudSieve x) {
        x.addEither(0, 1);
        x.addBoth(13, 13);
        x.addEither(14, 14);
        x.addNot(0);
        x.addNot(16);
        x.addEither(14, 17);
        for (int condition = 18; condition < 21; condition++) {
            x.addNot(condition);
        }
        for (int condition = 22; condition < 30; condition++) {
            x.addTest('m', 1, false, condition);
        }
    }

    /** One payment, and conditions 0 to 14 of the sizes 1 to 15; those of odd sizes hold. */
    private static FraudSieve sizes() {
        FraudSieve x = withPayment(100);
        x.addTest('n', 1, true, 1);
        for (int condition = 0; condition < 14; condition++) {
            x.addNot(condition);
        }
        return x;
    }
}
