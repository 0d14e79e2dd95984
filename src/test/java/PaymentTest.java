/** Promises 8 to 15: time, payments and what is kept of them. */
public final class PaymentTest {
    public static void main(String[] args) {
        pass();
        payOrder();
        payLimits();
        sums();
        longestWindow();
        Check.finish();
    }

    private static void pass() {
        FraudSieve x = new FraudSieve();
        Check.same("8 least", 1, () -> x.pass(1));
        Check.same("8 most", 1441, () -> x.pass(1440));
        for (int minutes : new int[] {0, -1, 1441, Integer.MIN_VALUE, Integer.MAX_VALUE}) {
            Check.fails("8 minutes " + minutes, Check.ARGUMENT, () -> x.pass(minutes));
        }
        Check.same("9 unchanged", 1441, x::time);
        x.open('a');
        x.open('a');
        x.pay(0, 1, 1);
        Check.same("9 payments take no time", 1441, x::time);
    }

    private static void payOrder() {
        FraudSieve x = new FraudSieve();
        x.open('a');
        Check.fails("10 no receiver", Check.INDEX, () -> x.pay(0, 1, 0));
        Check.fails("10 no payer", Check.INDEX, () -> x.pay(1, 0, 0));
        Check.fails("10 neither", Check.INDEX, () -> x.pay(-1, -1, 1));
        Check.fails("10 far off", Check.INDEX, () -> x.pay(0, Integer.MAX_VALUE, 1));
        Check.fails("10 far off", Check.INDEX, () -> x.pay(Integer.MIN_VALUE, 0, 1));
        x.open('b');
        x.setBlocked(0, true);
        for (int amount : new int[] {0, -1, 10000, Integer.MIN_VALUE, Integer.MAX_VALUE}) {
            Check.fails("10 amount " + amount, Check.ARGUMENT, () -> x.pay(0, 0, amount));
        }
        Check.fails("10 same before blocked", Check.UNSUPPORTED, () -> x.pay(0, 0, 1));
        Check.fails("10 blocked payer", Check.STATE, () -> x.pay(0, 1, 1));
        Check.fails("10 blocked receiver", Check.STATE, () -> x.pay(1, 0, 1));
        Check.same("11 nothing paid", 0, x::payments);
        x.setBlocked(0, false);
        Check.same("10 least amount", 0, () -> x.pay(0, 1, 1));
        Check.same("10 greatest amount", 1, () -> x.pay(1, 0, 9999));
        Check.same("11 two", 2, x::payments);
    }

    private static void payLimits() {
        FraudSieve x = new FraudSieve();
        x.open('a');
        x.open('b');
        for (int i = 0; i < 200; i++) {
            int payment = i;
            Check.same("10 number", payment, () -> x.pay(payment % 2, 1 - payment % 2, 9999));
        }
        Check.fails("10 full", Check.STATE, () -> x.pay(0, 1, 1));
        Check.fails("10 same before full", Check.UNSUPPORTED, () -> x.pay(1, 1, 1));
        Check.fails("10 amount before full", Check.ARGUMENT, () -> x.pay(0, 1, 0));
        Check.same("11 full", 200, x::payments);
        Check.same("46 full", 200L * 9999, x::turnover);
        Check.same("13 full", 100 * 9999, () -> x.sentBy(1, 1));
        Check.same("12 last", 0, () -> x.minuteOf(199));
        for (int payment : new int[] {-1, 200, Integer.MIN_VALUE, Integer.MAX_VALUE}) {
            Check.fails("12 payment " + payment, Check.ELEMENT, () -> x.minuteOf(payment));
        }
    }

    private static void sums() {
        FraudSieve x = new FraudSieve();
        x.open('a');
        x.open('b');
        x.pay(0, 1, 100);
        x.pass(10);
        x.pay(0, 1, 20);
        x.pay(1, 0, 3);
        Check.same("12 first", 0, () -> x.minuteOf(0));
        Check.same("12 later", 10, () -> x.minuteOf(2));
        checkSum(x, 0, 10, 20);
        checkSum(x, 0, 11, 120);
        checkSum(x, 1, 11, 3);
        x.pass(5);
        checkSum(x, 0, 5, 0);
        checkSum(x, 0, 6, 20);
        checkSum(x, 0, 15, 20);
        checkSum(x, 0, 16, 120);
        checkSum(x, 0, 10080, 120);
        for (int account : new int[] {-1, 2, Integer.MIN_VALUE, Integer.MAX_VALUE}) {
            Check.fails("13 account " + account, Check.INDEX, () -> x.sentBy(account, 0));
            Check.fails("14 account " + account, Check.INDEX, () -> x.sentByAnew(account, 0));
        }
        for (int window : new int[] {0, -1, 10081, Integer.MIN_VALUE, Integer.MAX_VALUE}) {
            Check.fails("13 window " + window, Check.ARGUMENT, () -> x.sentBy(0, window));
            Check.fails("14 window " + window, Check.ARGUMENT, () -> x.sentByAnew(0, window));
        }
    }

    private static void checkSum(FraudSieve x, int account, int window, int due) {
        Check.same("13 sum in " + window, due, () -> x.sentBy(account, window));
        Check.same("14 sum in " + window, due, () -> x.sentByAnew(account, window));
    }

    private static void longestWindow() {
        FraudSieve x = new FraudSieve();
        x.open('a');
        x.open('b');
        x.pay(0, 1, 7);
        x.pass(1);
        x.pay(0, 1, 8);
        for (int day = 0; day < 6; day++) {
            x.pass(1440);
        }
        x.pass(1438);
        Check.same("15 all", 2, x::kept);
        checkSum(x, 0, 10080, 15);
        x.pass(1);
        Check.same("15 first one fell out", 1, x::kept);
        checkSum(x, 0, 10080, 8);
        x.pay(1, 0, 9);
        Check.same("15 a new one", 2, x::kept);
        x.pass(1);
        Check.same("15 second one fell out", 1, x::kept);
        checkSum(x, 0, 10080, 0);
        checkSum(x, 1, 2, 9);
        checkSum(x, 1, 1, 0);
        Check.same("11 payments stay", 3, x::payments);
        Check.same("47 sound", true, x::isSound);
    }
}
