/** Promises 8 to 15, and the terms about payments. */
final class PaymentPromises {
    private static final int LONGEST_WINDOW = 10080;

    private interface SumOf {
        int of(FraudSieve x, int account, int window);
    }

    private PaymentPromises() {
    }

    static void run() {
        terms();
        pass();
        time();
        payAndItsRanges();
        payThatIsRefused();
        payments();
        minuteOf();
        Doc.promise(13, "Returns what an account paid in a window at the present time, found from"
                + " its payments that are kept in the longest window.");
        sums(13, FraudSieve::sentBy);
        Doc.promise(14, "Returns the same sum, found by going through all payments.");
        sums(14, FraudSieve::sentByAnew);
        kept();
    }

    private static void terms() {
        Doc.term("Payments. At most 200 payments have the numbers 0, 1, 2 and so on.");
        FraudSieve x = Scenes.withAccounts(2);
        for (int i = 0; i < 200; i++) {
            int payment = i;
            Check.same("number", payment, () -> x.pay(payment % 2, 1 - payment % 2, 1 + payment));
        }
        Check.fails("one more", Check.STATE, () -> x.pay(0, 1, 1));
        for (int payment : new int[] {0, 1, 198, 199}) {
            Check.same("each has its own", 1 + payment, () -> x.valueOf(payment, 'm', 1));
        }
        Doc.term("A payment has a payer, which is an account, a receiver, which is another one,"
                + " and an amount from 1 to 9999.");
        FraudSieve two = Scenes.withAccounts(2);
        Check.same("least amount", 0, () -> two.pay(0, 1, 1));
        Check.same("greatest amount", 1, () -> two.pay(1, 0, 9999));
        Check.same("payer", 9999, () -> two.sentBy(1, 1));
        Check.same("receiver", 9999, () -> two.sentBy(1, 1));
        Check.same("received", 1, () -> two.valueOf(1, 'i', 1));
        Check.fails("no account", Check.INDEX, () -> two.pay(2, 0, 1));
        Check.fails("not another one", Check.UNSUPPORTED, () -> two.pay(0, 0, 1));
    }

    private static void pass() {
        Doc.promise(8, "Lets time pass.");
        FraudSieve x = new FraudSieve();
        x.pass(3);
        Check.same("by the minutes", 3, x::time);
        Doc.promise(8, "`minutes`: the number of minutes, 1 to 1440");
        Check.same("least", 4, () -> x.pass(1));
        Check.same("greatest", 1444, () -> x.pass(1440));
        Doc.promise(8, "Returns the time after the call.");
        Check.same("after", 1454, () -> x.pass(10));
        Check.same("the same", 1454, x::time);
        Doc.promise(8, "Throws `IllegalArgumentException` if the number is out of range");
        Refused.outside(1, 1440, Check.ARGUMENT, Scenes.EMPTY, FraudSieve::pass);
        Refused.outside(1, 1440, Check.ARGUMENT, Scenes.MIXED, FraudSieve::pass);
        Refused.outside(1, 1440, Check.ARGUMENT, Scenes.FULL, FraudSieve::pass);
    }

    private static void time() {
        Doc.promise(9, "Returns the time.");
        FraudSieve x = new FraudSieve();
        Check.same("at first", 0, x::time);
        Doc.promise(9, "Returns the number of minutes that have passed.");
        x.pass(1);
        Check.same("after the least pass", 1, x::time);
        x.pass(1440);
        Check.same("after the greatest pass", 1441, x::time);
    }

    private static void payAndItsRanges() {
        Doc.promise(10, "Makes a payment at the present time, and looks at it by the rules.");
        FraudSieve x = Scenes.withAccounts(20);
        x.addRule(x.addTest('n', 1, true, 1), 50);
        x.pay(0, 1, 1);
        x.pass(9);
        x.setRule(0, false);
        x.pay(0, 1, 1);
        Check.same("at first", 0, () -> x.minuteOf(0));
        Check.same("later", 9, () -> x.minuteOf(1));
        Check.same("by the rule", 50, () -> x.score(0));
        Check.same("not by the one that is off", 0, () -> x.score(1));
        Doc.promise(10, "`payer`: the number of the account that pays");
        x.pay(19, 5, 100);
        Check.same("last", 100, () -> x.sentBy(19, 1));
        x.pay(0, 5, 200);
        Check.same("first", 201, () -> x.sentBy(0, 1));
        Check.same("not the receiver", 0, () -> x.sentBy(5, 1));
        Doc.promise(10, "`receiver`: the number of the account that receives");
        x.pay(5, 19, 1);
        x.pay(5, 0, 1);
        Check.same("others receive", 300, () -> x.valueOf(4, 'i', 1));
        Check.same("first and last", 2, () -> x.valueOf(5, 'r', 1));
        Doc.promise(10, "`amount`: the amount, 1 to 9999");
        Check.same("least", 6, () -> x.pay(6, 7, 1));
        Check.same("greatest", 7, () -> x.pay(6, 7, 9999));
        Check.same("both", 10000, () -> x.sentBy(6, 1));
        Doc.promise(10, "Returns the number of the payment.");
        Check.same("next", 8, () -> x.pay(6, 7, 5));
    }

    private static void payThatIsRefused() {
        Doc.promise(10, "Throws `IndexOutOfBoundsException` if there is no such account,"
                + " for either");
        Refused.accounts((x, account) -> x.pay(account, 0, 1));
        Refused.accounts((x, account) -> x.pay(0, account, 1));
        Refused.accounts((x, account) -> x.pay(account, account, 1));
        Doc.promise(10, "Throws `IllegalArgumentException` if the amount is out of range");
        Refused.outside(1, 9999, Check.ARGUMENT, Scenes.MIXED, (x, amount) -> x.pay(0, 1, amount));
        Refused.outside(1, 9999, Check.ARGUMENT, Scenes.FULL, (x, amount) -> x.pay(0, 1, amount));
        Doc.promise(10, "Throws `UnsupportedOperationException` if both accounts are the same");
        for (int account : new int[] {0, 5}) {
            Refused.call("same " + account, Check.UNSUPPORTED, Scenes.MIXED,
                    x -> x.pay(account, account, 1));
        }
        Check.same("neighbours", 6, () -> Scenes.MIXED.make().pay(0, 1, 1));
        Doc.promise(10, "Throws `IllegalStateException` if one of the accounts is blocked,"
                + " or there are 200 payments");
        int[][] blocked = {{2, 0}, {0, 2}, {2, 3}, {3, 1}, {1, 3}};
        for (int[] pair : blocked) {
            Refused.call("blocked", Check.STATE, Scenes.MIXED, x -> x.pay(pair[0], pair[1], 1));
        }
        Check.same("marked, not blocked", 6, () -> Scenes.MIXED.make().pay(1, 0, 1));
        Scenes.Scene nearlyFull = () -> withPayments(199);
        Check.same("the 200th", 199, () -> nearlyFull.make().pay(0, 1, 1));
        Refused.call("the 201st", Check.STATE, () -> withPayments(200), x -> x.pay(0, 1, 1));
        Refused.call("the 201st", Check.STATE, Scenes.FULL, x -> x.pay(19, 0, 9999));
        Refused.call("blocked, the 200th", Check.STATE, () -> {
            FraudSieve x = nearlyFull.make();
            x.setBlocked(1, true);
            return x;
        }, x -> x.pay(0, 1, 1));
    }

    private static FraudSieve withPayments(int count) {
        FraudSieve x = Scenes.withAccounts(2);
        for (int payment = 0; payment < count; payment++) {
            x.pay(0, 1, 9999);
        }
        return x;
    }

    private static void payments() {
        Doc.promise(11, "Returns the number of payments.");
        FraudSieve x = Scenes.withAccounts(2);
        Check.same("none", 0, x::payments);
        for (int i = 1; i <= 200; i++) {
            x.pay(0, 1, 1);
            Check.same("after pay", i, x::payments);
        }
        Check.fails("no room", Check.STATE, () -> x.pay(0, 1, 1));
        Check.same("full", 200, x::payments);
        Scenes.pass(x, 10080);
        Check.same("outside of the longest window, too", 200, x::payments);
    }

    private static void minuteOf() {
        Doc.promise(12, "Returns when a payment was made.");
        FraudSieve x = Scenes.withAccounts(2);
        x.pay(0, 1, 1);
        x.pass(5);
        x.pay(0, 1, 1);
        Check.same("later", 5, () -> x.minuteOf(1));
        Doc.promise(12, "`payment`: the number of the payment");
        FraudSieve full = withPayments(199);
        full.pass(1440);
        full.pay(1, 0, 1);
        Check.same("first", 0, () -> full.minuteOf(0));
        Check.same("last but one", 0, () -> full.minuteOf(198));
        Check.same("last", 1440, () -> full.minuteOf(199));
        Doc.promise(12, "Returns its minute.");
        Check.same("at the time 0", 0, () -> x.minuteOf(0));
        x.pass(1440);
        Check.same("not by the time now", 5, () -> x.minuteOf(1));
        Doc.promise(12, "Throws `NoSuchElementException` if there is no such payment");
        Refused.payments((y, payment) -> y.minuteOf(payment));
    }

    private static void sums(int promise, SumOf sums) {
        haveSums(sums);
        Doc.promise(promise, "`account`: the number of the account");
        FraudSieve two = paidByFirstAndLast();
        Check.same("first", 30, () -> sums.of(two, 0, 1));
        Check.same("last", 400, () -> sums.of(two, 19, 1));
        Check.same("not one that only receives", 0, () -> sums.of(two, 1, 1));
        Doc.promise(promise, "`window`: the window in minutes, 1 to 10080");
        two.pass(1);
        Check.same("shortest", 0, () -> sums.of(two, 0, 1));
        Check.same("longest", 30, () -> sums.of(two, 0, LONGEST_WINDOW));
        Doc.promise(promise, "Returns the sum of the amounts.");
        Check.same("none", 0, () -> sums.of(two, 1, LONGEST_WINDOW));
        Check.same("greatest", 200 * 9999, () -> sums.of(withPayments(200), 0, 1));
        Doc.promise(promise, "Throws `IndexOutOfBoundsException` if there is no such account");
        Refused.accounts((x, account) -> sums.of(x, account, 1));
        Doc.promise(promise, "Throws `IllegalArgumentException` if the window is out of range");
        Refused.windows(Scenes.MIXED, (x, window) -> sums.of(x, 1, window));
        Refused.windows(Scenes.FULL, (x, window) -> sums.of(x, 19, window));
    }

    private static FraudSieve paidByFirstAndLast() {
        FraudSieve x = Scenes.withAccounts(20);
        x.pay(0, 1, 10);
        x.pay(19, 1, 400);
        x.pay(0, 19, 20);
        return x;
    }

    /** Amounts of 1, 20, 300 and 4000 fall out of the longest window one after the other. */
    private static void haveSums(SumOf sums) {
        FraudSieve x = Scenes.withAccounts(20);
        Check.same("nothing paid", 0, () -> sums.of(x, 3, LONGEST_WINDOW));
        x.pay(3, 4, 1);
        x.pass(1);
        x.pay(3, 5, 20);
        x.pay(4, 3, 7);
        x.pass(1);
        x.pay(3, 4, 300);
        Check.same("all at the last one", 321, () -> sums.of(x, 3, 3));
        Check.same("two", 320, () -> sums.of(x, 3, 2));
        Check.same("one", 300, () -> sums.of(x, 3, 1));
        Scenes.pass(x, LONGEST_WINDOW - 3);
        Check.same("first one is still in", 321, () -> sums.of(x, 3, LONGEST_WINDOW));
        Check.same("not in a shorter window", 320, () -> sums.of(x, 3, LONGEST_WINDOW - 1));
        x.pass(1);
        Check.same("first one is out", 320, () -> sums.of(x, 3, LONGEST_WINDOW));
        x.pay(3, 4, 4000);
        Check.same("a new one is in", 4320, () -> sums.of(x, 3, LONGEST_WINDOW));
        x.pass(2);
        Check.same("only the new one", 4000, () -> sums.of(x, 3, LONGEST_WINDOW));
        Check.same("in its minutes", 4000, () -> sums.of(x, 3, 3));
        Check.same("not in less", 0, () -> sums.of(x, 3, 2));
        Scenes.pass(x, LONGEST_WINDOW - 2);
        Check.same("all are out", 0, () -> sums.of(x, 3, LONGEST_WINDOW));
    }

    private static void kept() {
        Doc.promise(15, "Returns the number of payments that lie in the longest window at the"
                + " present time.");
        FraudSieve x = Scenes.withAccounts(2);
        Check.same("none", 0, x::kept);
        x.pay(0, 1, 1);
        x.pay(1, 0, 1);
        x.pass(1);
        x.pay(0, 1, 1);
        Scenes.pass(x, LONGEST_WINDOW - 2);
        Check.same("all", 3, x::kept);
        x.pass(1);
        Check.same("two are out", 1, x::kept);
        x.pay(0, 1, 1);
        Check.same("a new one", 2, x::kept);
        x.pass(1);
        Check.same("another one is out", 1, x::kept);
        x.pass(1440);
        Check.same("stays", 1, x::kept);
        Doc.promise(15, "Returns the number of payments.");
        FraudSieve full = withPayments(200);
        Check.same("all that there can be", 200, full::kept);
        Scenes.pass(full, LONGEST_WINDOW - 1);
        Check.same("in the last minute", 200, full::kept);
        full.pass(1);
        Check.same("all are out", 0, full::kept);
        full.pass(1440);
        Check.same("later", 0, full::kept);
    }
}
