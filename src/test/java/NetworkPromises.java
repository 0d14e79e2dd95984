/** Promises 38 to 40, and the terms about ways and links. */
final class NetworkPromises {
    private interface Ring {
        int of(FraudSieve x, int account, int window);
    }

    private NetworkPromises() {
    }

    static void run() {
        terms();
        Doc.promise(38, "Returns the length of the shortest ring through an account: the least"
                + " number of payments of a way from it to itself in the window at the present"
                + " time, found step by step.");
        rings(38, FraudSieve::ring);
        Doc.promise(39, "Returns the same length, found by trying the lengths from 1 on, and for"
                + " each one all accounts to which a way of this length leads.");
        rings(39, FraudSieve::ringByTrying);
        group();
        groupThatIsRefused();
    }

    private static void terms() {
        Doc.term("A way from an account to another one in a window is a row of payments in it, in"
                + " any order of time, in which each one is paid by the receiver of the one"
                + " before; the first one is paid by the one account, and the last one is received"
                + " by the other one.");
        int[][] ring = {{0, 1}, {1, 2}, {2, 0}};
        int[][] orders = {{0, 1, 2}, {0, 2, 1}, {1, 0, 2}, {1, 2, 0}, {2, 0, 1}, {2, 1, 0}};
        for (int[] order : orders) {
            FraudSieve x = Scenes.withAccounts(4);
            for (int payment : order) {
                x.pass(1);
                x.pay(ring[payment][0], ring[payment][1], 1);
            }
            Check.same("by the last payment", 3, () -> x.valueOf(2, 'k', 3));
            Check.same("not by the one before", 0, () -> x.valueOf(1, 'k', 3));
            Check.same("not if one is outside", 0, () -> x.valueOf(2, 'k', 2));
            for (int account = 0; account < 3; account++) {
                hasRing(FraudSieve::ring, x, account, 3, 3);
                hasRing(FraudSieve::ringByTrying, x, account, 3, 3);
                hasRing(FraudSieve::ring, x, account, 2, 0);
                hasRing(FraudSieve::ringByTrying, x, account, 2, 0);
            }
        }
        FraudSieve against = Scenes.withAccounts(3);
        against.pay(0, 1, 1);
        against.pay(2, 1, 1);
        against.pay(0, 2, 1);
        hasRing(FraudSieve::ring, against, 0, 1, 0);
        Doc.term("A link between two accounts is a payment between them in the window, whoever"
                + " paid.");
        for (int account = 0; account < 3; account++) {
            int member = account;
            Check.same("of " + member, 3, () -> against.group(member, 1));
        }
        against.setMarked(0, true);
        Check.same("from the receiver to the payer", 1, () -> against.valueOf(1, 'd', 1));
        against.pass(1);
        Check.same("not outside of the window", 1, () -> against.group(0, 1));
    }

    /** A length of 0 stands for no ring. */
    private static void hasRing(Ring ring, FraudSieve x, int account, int window, int due) {
        Object answer = due == 0 ? "throws java.util.NoSuchElementException" : due;
        Check.same("ring of " + account + " in " + window, answer,
                () -> ring.of(x, account, window));
    }

    private static void rings(int promise, Ring ring) {
        FraudSieve x = Scenes.withAccounts(5);
        x.pay(2, 0, 1);
        x.pay(1, 2, 1);
        hasRing(ring, x, 0, 1, 0);
        x.pay(0, 1, 1);
        hasRing(ring, x, 0, 1, 3);
        x.pay(3, 0, 1);
        hasRing(ring, x, 3, 1, 0);
        x.pass(5);
        x.pay(0, 3, 1);
        hasRing(ring, x, 0, 6, 2);
        hasRing(ring, x, 3, 6, 2);
        hasRing(ring, x, 1, 6, 3);
        hasRing(ring, x, 0, 5, 0);
        x.pass(1);
        hasRing(ring, x, 3, 6, 0);
        hasRing(ring, x, 3, 7, 2);
        Doc.promise(promise, "`account`: the number of the account");
        FraudSieve most = closedRow(20);
        for (int account = 0; account < 20; account++) {
            hasRing(ring, most, account, 1, 20);
        }
        Doc.promise(promise, "`window`: the window in minutes, 1 to 10080");
        most.pass(1);
        hasRing(ring, most, 19, 1, 0);
        Scenes.pass(most, 10078);
        hasRing(ring, most, 19, 10079, 0);
        hasRing(ring, most, 19, 10080, 20);
        most.pass(1);
        hasRing(ring, most, 19, 10080, 0);
        Doc.promise(promise, "Returns the number of payments.");
        for (int length = 2; length <= 20; length++) {
            hasRing(ring, closedRow(length), length - 1, 1, length);
        }
        FraudSieve two = closedRow(20);
        two.pay(10, 0, 1);
        hasRing(ring, two, 0, 1, 11);
        hasRing(ring, two, 10, 1, 11);
        hasRing(ring, two, 11, 1, 20);
        hasRing(ring, Scenes.FULL.make(), 0, 10080, 2);
        ringsThatAreRefused(promise, ring);
    }

    /** Each account pays the next one, the last one pays the first. */
    private static FraudSieve closedRow(int count) {
        FraudSieve x = Scenes.withAccounts(count);
        for (int payer = 0; payer < count; payer++) {
            x.pay(payer, (payer + 1) % count, 1);
        }
        return x;
    }

    private static void ringsThatAreRefused(int promise, Ring ring) {
        Doc.promise(promise, "Throws `IndexOutOfBoundsException` if there is no such account");
        Refused.accounts((x, account) -> ring.of(x, account, 1));
        Refused.accounts((x, account) -> ring.of(x, account, 10080));
        Doc.promise(promise, "Throws `IllegalArgumentException` if the window is out of range");
        Refused.windows(() -> closedRow(3), (x, window) -> ring.of(x, 0, window));
        Refused.windows(Scenes.FULL, (x, window) -> ring.of(x, 19, window));
        Doc.promise(promise, "Throws `NoSuchElementException` if there is no such way");
        Scenes.Scene alone = () -> Scenes.withAccounts(1);
        Refused.call("alone", Check.ELEMENT, alone, x -> ring.of(x, 0, 10080));
        Scenes.Scene open = () -> openRow(20);
        for (int account = 0; account < 20; account++) {
            int number = account;
            Refused.call("open row", Check.ELEMENT, open, x -> ring.of(x, number, 10080));
        }
        Refused.call("window", Check.ELEMENT, Scenes.MIXED, x -> ring.of(x, 1, 8));
        Check.same("window", 2, () -> ring.of(Scenes.MIXED.make(), 1, 9));
    }

    private static FraudSieve openRow(int count) {
        FraudSieve x = Scenes.withAccounts(count);
        for (int payer = 0; payer < count - 1; payer++) {
            x.pay(payer, payer + 1, 1);
        }
        return x;
    }

    private static void hasGroup(FraudSieve x, int account, int window, int due) {
        Check.same("group of " + account + " in " + window, due, () -> x.group(account, window));
    }

    private static void group() {
        Doc.promise(40, "Returns the number of accounts that are joined with an account by links"
                + " in the window at the present time, one after the other, itself included.");
        FraudSieve x = Scenes.withAccounts(6);
        hasGroup(x, 0, 1, 1);
        x.pay(1, 0, 1);
        x.pay(1, 2, 1);
        hasGroup(x, 0, 1, 3);
        hasGroup(x, 1, 1, 3);
        hasGroup(x, 2, 1, 3);
        hasGroup(x, 3, 1, 1);
        x.pass(3);
        x.pay(2, 3, 1);
        x.pay(4, 5, 1);
        hasGroup(x, 2, 3, 2);
        hasGroup(x, 0, 3, 1);
        hasGroup(x, 0, 4, 4);
        hasGroup(x, 4, 4, 2);
        x.pass(1);
        hasGroup(x, 2, 4, 2);
        hasGroup(x, 2, 1, 1);
        Doc.promise(40, "`account`: the number of the account");
        FraudSieve row = openRow(20);
        for (int account = 0; account < 20; account++) {
            hasGroup(row, account, 1, 20);
        }
        Doc.promise(40, "`window`: the window in minutes, 1 to 10080");
        row.pass(1);
        hasGroup(row, 0, 1, 1);
        Scenes.pass(row, 10078);
        hasGroup(row, 0, 10079, 1);
        hasGroup(row, 0, 10080, 20);
        row.pass(1);
        hasGroup(row, 0, 10080, 1);
        Doc.promise(40, "Returns the number of accounts.");
        for (int count = 1; count <= 20; count++) {
            hasGroup(openRow(count), 0, 1, count);
            hasGroup(openRow(count), count - 1, 1, count);
        }
    }

    private static void groupThatIsRefused() {
        Doc.promise(40, "Throws `IndexOutOfBoundsException` if there is no such account");
        Refused.accounts((x, account) -> x.group(account, 1));
        Refused.accounts((x, account) -> x.group(account, 10080));
        Doc.promise(40, "Throws `IllegalArgumentException` if the window is out of range");
        Refused.windows(Scenes.MIXED, (x, window) -> x.group(5, window));
        Refused.windows(Scenes.FULL, (x, window) -> x.group(19, window));
    }
}
