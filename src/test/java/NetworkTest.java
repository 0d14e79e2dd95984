/** Promises 38 to 40: rings and groups at the present time. */
public final class NetworkTest {
    public static void main(String[] args) {
        rings();
        longestRing();
        groups();
        wrongInputs();
        Check.finish();
    }

    private static FraudSieve withAccounts(int count) {
        FraudSieve x = new FraudSieve();
        for (int i = 0; i < count; i++) {
            x.open('a');
        }
        return x;
    }

    private static void ring(FraudSieve x, int account, int window, int due) {
        Check.same("38 ring of " + account, due, () -> x.ring(account, window));
        Check.same("39 ring of " + account, due, () -> x.ringByTrying(account, window));
    }

    private static void noRing(FraudSieve x, int account, int window) {
        Check.fails("38 of " + account, Check.ELEMENT, () -> x.ring(account, window));
        Check.fails("39 of " + account, Check.ELEMENT, () -> x.ringByTrying(account, window));
    }

    private static void rings() {
        FraudSieve x = withAccounts(5);
        noRing(x, 0, 10080);
        x.pay(2, 0, 1);
        x.pay(1, 2, 1);
        noRing(x, 0, 10080);
        x.pay(0, 1, 1);
        ring(x, 0, 1, 3);
        ring(x, 1, 1, 3);
        ring(x, 2, 1, 3);
        x.pay(3, 0, 1);
        noRing(x, 3, 1);
        x.pass(5);
        x.pay(0, 3, 1);
        ring(x, 0, 6, 2);
        ring(x, 3, 6, 2);
        ring(x, 1, 6, 3);
        noRing(x, 0, 5);
        noRing(x, 3, 5);
        noRing(x, 4, 6);
        x.pass(1);
        noRing(x, 3, 6);
        ring(x, 3, 7, 2);
    }

    private static void longestRing() {
        FraudSieve x = withAccounts(20);
        for (int account = 0; account < 19; account++) {
            x.pay(account, account + 1, 1);
        }
        noRing(x, 0, 1);
        noRing(x, 19, 1);
        x.pay(19, 0, 1);
        for (int account = 0; account < 20; account++) {
            ring(x, account, 1, 20);
        }
        x.pay(10, 0, 1);
        ring(x, 0, 1, 11);
        ring(x, 15, 1, 20);
    }

    private static void groups() {
        FraudSieve x = withAccounts(20);
        Check.same("40 alone", 1, () -> x.group(0, 1));
        x.pay(1, 0, 1);
        x.pay(1, 2, 1);
        Check.same("40 by both directions", 3, () -> x.group(0, 1));
        Check.same("40 by both directions", 3, () -> x.group(2, 1));
        Check.same("40 another one", 1, () -> x.group(3, 1));
        x.pass(3);
        x.pay(2, 3, 1);
        Check.same("40 window", 2, () -> x.group(2, 3));
        Check.same("40 window", 1, () -> x.group(0, 3));
        Check.same("40 window", 4, () -> x.group(0, 4));
        x.pass(1);
        Check.same("40 at the present time", 2, () -> x.group(2, 4));
        Check.same("40 at the present time", 1, () -> x.group(2, 1));
        FraudSieve row = withAccounts(20);
        for (int account = 19; account > 0; account--) {
            row.pay(account, account - 1, 1);
        }
        Check.same("40 all", 20, () -> row.group(0, 1));
        Check.same("40 all", 20, () -> row.group(19, 1));
    }

    private static void wrongInputs() {
        FraudSieve x = withAccounts(2);
        for (int wrong : new int[] {-1, 2, 32, Integer.MIN_VALUE, Integer.MAX_VALUE}) {
            Check.fails("38 account", Check.INDEX, () -> x.ring(wrong, 0));
            Check.fails("39 account", Check.INDEX, () -> x.ringByTrying(wrong, 0));
            Check.fails("40 account", Check.INDEX, () -> x.group(wrong, 0));
        }
        for (int wrong : new int[] {0, -1, 10081, Integer.MIN_VALUE, Integer.MAX_VALUE}) {
            Check.fails("38 window", Check.ARGUMENT, () -> x.ring(0, wrong));
            Check.fails("39 window", Check.ARGUMENT, () -> x.ringByTrying(0, wrong));
            Check.fails("40 window", Check.ARGUMENT, () -> x.group(0, wrong));
        }
        Check.same("40 longest window", 1, () -> x.group(0, 10080));
        Check.same("40 shortest window", 1, () -> x.group(0, 1));
    }
}
