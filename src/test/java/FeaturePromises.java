/** Promise 16, and the terms about features. */
final class FeaturePromises {
    private static final String FEATURES = "nsmlrcigkdfqa";
    private static final int LONGEST_WINDOW = 10080;

    private FeaturePromises() {
    }

    static void run() {
        terms();
        number();
        sum();
        greatest();
        lowAmounts();
        receivers();
        countries();
        received();
        group();
        ring();
        nearestMarked();
        linksToMarked();
        firstOfPair();
        sinceLast();
        age();
        valueOf();
        valueOfThatIsRefused();
    }

    private static void value(FraudSieve x, int payment, char feature, int window, int due) {
        String label = feature + " of " + payment + " in " + window;
        Check.same(label, due, () -> x.valueOf(payment, feature, window));
    }

    private static void values(FraudSieve x, char feature, int window, int... due) {
        for (int payment = 0; payment < due.length; payment++) {
            value(x, payment, feature, window, due[payment]);
        }
    }

    private static void features(FraudSieve x, int payment, int window, int... due) {
        for (int i = 0; i < due.length; i++) {
            value(x, payment, FEATURES.charAt(i), window, due[i]);
        }
    }

    private static void terms() {
        Doc.term("Features. A feature of a payment has a letter and a value in a window at the"
                + " minute of the payment.");
        FraudSieve x = Scenes.withAccounts("ab");
        x.pay(0, 1, 901);
        x.pay(1, 0, 70);
        x.pass(10);
        x.pay(0, 1, 3);
        Scenes.pass(x, LONGEST_WINDOW);
        features(x, 2, 10, 1, 3, 3, 0, 1, 1, 0, 2, 0, 99, 0, 10, 10);
        features(x, 2, 11, 2, 904, 901, 1, 1, 1, 70, 2, 2, 99, 0, 10, 10);
        Doc.term("Only payments with a number up to that of the payment itself are looked at.");
        FraudSieve y = Scenes.withAccounts("abc");
        y.pay(0, 1, 5);
        y.pay(1, 2, 5);
        y.pay(2, 0, 5);
        y.pay(0, 2, 900);
        y.setMarked(2, true);
        features(y, 0, 1, 1, 5, 5, 0, 1, 1, 0, 2, 0, 99, 1, 99999, 0);
        features(y, 1, 1, 1, 5, 5, 0, 1, 1, 5, 3, 0, 0, 1, 99999, 0);
        features(y, 3, 1, 2, 905, 900, 1, 2, 2, 5, 3, 2, 0, 1, 0, 0);
        Doc.term("The features are, in this order:");
        for (int sign = 0; sign < 1024; sign++) {
            char letter = (char) sign;
            Object due = FEATURES.indexOf(letter) < 0
                    ? "throws java.lang.IllegalArgumentException"
                    : Scenes.withPayment(7).valueOf(0, letter, 1);
            FraudSieve z = Scenes.withPayment(7);
            Check.same("sign " + sign, due, () -> z.valueOf(0, letter, 1));
        }
    }

    private static void number() {
        Doc.term("'n': the number of payments of its payer in the window;");
        FraudSieve x = Scenes.withAccounts(3);
        x.pay(0, 1, 5);
        x.pay(1, 0, 5);
        x.pay(0, 1, 5);
        x.pass(4);
        x.pay(0, 2, 5);
        values(x, 'n', 1, 1, 1, 2, 1);
        values(x, 'n', 4, 1, 1, 2, 1);
        values(x, 'n', 5, 1, 1, 2, 3);
        FraudSieve full = paidByOne(9999);
        value(full, 0, 'n', 1, 1);
        value(full, 199, 'n', 1, 200);
    }

    /** Account 0 pays 200 times, all others by turns. */
    private static FraudSieve paidByOne(int amount) {
        FraudSieve x = Scenes.withAccounts(20);
        for (int payment = 0; payment < 200; payment++) {
            x.pay(0, 1 + payment % 19, amount);
        }
        return x;
    }

    private static void sum() {
        Doc.term("'s': the sum of their amounts;");
        FraudSieve x = Scenes.withAccounts(3);
        x.pay(0, 1, 1);
        x.pay(1, 0, 20);
        x.pay(0, 2, 300);
        x.pass(4);
        x.pay(0, 1, 4000);
        values(x, 's', 4, 1, 20, 301, 4000);
        values(x, 's', 5, 1, 20, 301, 4301);
        value(paidByOne(9999), 199, 's', 1, 200 * 9999);
    }

    private static void greatest() {
        Doc.term("'m': the greatest one of their amounts;");
        FraudSieve x = Scenes.withAccounts(3);
        x.pay(0, 1, 1);
        x.pay(1, 0, 9999);
        x.pay(0, 2, 300);
        x.pay(0, 2, 299);
        x.pass(4);
        x.pay(0, 1, 2);
        values(x, 'm', 4, 1, 9999, 300, 300, 2);
        values(x, 'm', 5, 1, 9999, 300, 300, 300);
        value(paidByOne(9999), 199, 'm', 1, 9999);
    }

    private static void lowAmounts() {
        Doc.term("'l': the number of those with amounts from 900 to 999;");
        FraudSieve x = Scenes.withAccounts(2);
        for (int amount : new int[] {899, 900, 950, 999, 1000, 1, 9999}) {
            x.pay(0, 1, amount);
        }
        x.pay(1, 0, 900);
        x.pass(4);
        x.pay(0, 1, 999);
        values(x, 'l', 4, 0, 1, 2, 3, 3, 3, 3, 1, 1);
        values(x, 'l', 5, 0, 1, 2, 3, 3, 3, 3, 1, 4);
        value(paidByOne(900), 199, 'l', 1, 200);
        value(paidByOne(999), 199, 'l', 1, 200);
        value(paidByOne(899), 199, 'l', 1, 0);
        value(paidByOne(1000), 199, 'l', 1, 0);
    }

    private static void receivers() {
        Doc.term("'r': the number of accounts that received them;");
        FraudSieve x = Scenes.withAccounts(4);
        x.pay(0, 1, 1);
        x.pay(0, 1, 1);
        x.pay(0, 2, 1);
        x.pay(1, 3, 1);
        x.pass(4);
        x.pay(0, 2, 1);
        x.pay(0, 3, 1);
        values(x, 'r', 4, 1, 1, 2, 1, 1, 2);
        values(x, 'r', 5, 1, 1, 2, 1, 2, 3);
        value(paidByOne(1), 18, 'r', 1, 19);
        value(paidByOne(1), 199, 'r', 1, 19);
    }

    private static void countries() {
        Doc.term("'c': the number of countries of these accounts;");
        FraudSieve x = Scenes.withAccounts("aaabcdd");
        for (int receiver : new int[] {1, 2, 3, 4, 5, 6}) {
            x.pay(0, receiver, 1);
        }
        x.pay(6, 5, 1);
        x.pass(4);
        x.pay(0, 6, 1);
        values(x, 'c', 4, 1, 1, 2, 3, 4, 4, 1, 1);
        values(x, 'c', 5, 1, 1, 2, 3, 4, 4, 1, 4);
        value(paidByOne(1), 199, 'c', 1, 4);
        FraudSieve ends = Scenes.withAccounts("dbbbbbbbbbbbbbbbbbbc");
        ends.pay(1, 0, 1);
        ends.pay(1, 19, 1);
        ends.pay(1, 2, 1);
        values(ends, 'c', 1, 1, 2, 3);
        values(ends, 'r', 1, 1, 2, 3);
    }

    private static void received() {
        Doc.term("'i': the sum of the amounts that its payer received in the window;");
        FraudSieve x = Scenes.withAccounts(3);
        x.pay(0, 1, 1);
        x.pay(1, 0, 20);
        x.pay(2, 0, 300);
        x.pay(0, 1, 4000);
        x.pass(4);
        x.pay(0, 2, 7);
        values(x, 'i', 4, 0, 1, 0, 320, 0);
        values(x, 'i', 5, 0, 1, 0, 320, 320);
        FraudSieve full = Scenes.withAccounts(2);
        for (int payment = 0; payment < 199; payment++) {
            full.pay(1, 0, 9999);
        }
        full.pay(0, 1, 1);
        value(full, 199, 'i', 1, 199 * 9999);
    }

    private static void group() {
        Doc.term("'g': the number of accounts in the group of its payer: those that are joined"
                + " with it by links, one after the other, itself included;");
        FraudSieve x = Scenes.withAccounts(6);
        x.pay(1, 0, 5);
        x.pay(2, 1, 5);
        x.pay(3, 4, 5);
        x.pass(5);
        x.pay(2, 3, 5);
        values(x, 'g', 5, 2, 3, 2, 2);
        values(x, 'g', 6, 2, 3, 2, 5);
        FraudSieve row = row(19);
        for (int payment = 0; payment < 19; payment++) {
            value(row, payment, 'g', 1, payment + 2);
        }
        FraudSieve turned = Scenes.withAccounts(20);
        for (int payer = 0; payer < 19; payer++) {
            turned.pay(payer, payer + 1, 1);
            value(turned, payer, 'g', 1, payer + 2);
        }
    }

    /** Accounts 1 to last pay the one before, the first payment is that of 1 to 0. */
    private static FraudSieve row(int last) {
        FraudSieve x = Scenes.withAccounts(20);
        for (int payer = 1; payer <= last; payer++) {
            x.pay(payer, payer - 1, 1);
        }
        return x;
    }

    private static void ring() {
        Doc.term("'k': the length of the shortest ring that it closes, which is 1 plus the least"
                + " number of payments of a way in the window from its receiver to its payer;");
        FraudSieve x = Scenes.withAccounts(5);
        x.pay(1, 2, 5);
        x.pay(2, 3, 5);
        x.pay(3, 0, 5);
        x.pay(0, 1, 5);
        x.pay(2, 0, 5);
        x.pay(0, 1, 5);
        x.pay(1, 0, 5);
        x.pay(0, 2, 5);
        x.pay(0, 1, 5);
        values(x, 'k', 1, 0, 0, 0, 4, 3, 3, 2, 2, 2);
        for (int last = 1; last <= 19; last++) {
            FraudSieve row = row(last);
            row.pay(0, last, 1);
            value(row, last, 'k', 1, last + 1);
        }
        Doc.term("0 if there is none;");
        FraudSieve y = Scenes.withAccounts(5);
        y.pay(0, 1, 5);
        y.pay(0, 1, 5);
        y.pay(2, 1, 5);
        y.pay(0, 2, 5);
        values(y, 'k', 1, 0, 0, 0, 0);
        y.pass(5);
        y.pay(1, 0, 5);
        value(y, 4, 'k', 5, 0);
        value(y, 4, 'k', 6, 2);
        value(row(19), 18, 'k', 1, 0);
    }

    private static void nearestMarked() {
        Doc.term("'d': the least number of links, one after the other, from its receiver to an"
                + " account that is marked now,");
        FraudSieve x = row(19);
        x.setMarked(0, true);
        for (int payment = 0; payment < 19; payment++) {
            value(x, payment, 'd', 1, payment);
        }
        FraudSieve ring = row(18);
        ring.pay(19, 18, 1);
        ring.pay(0, 1, 1);
        ring.pay(1, 0, 1);
        ring.setMarked(19, true);
        value(ring, 19, 'd', 1, 18);
        value(ring, 20, 'd', 1, 19);
        ring.setMarked(9, true);
        value(ring, 20, 'd', 1, 9);
        ring.setMarked(9, false);
        value(ring, 20, 'd', 1, 19);
        ring.setMarked(1, true);
        value(ring, 20, 'd', 1, 1);
        Doc.term("0 if the receiver is marked itself;");
        value(ring, 19, 'd', 1, 0);
        ring.setMarked(1, false);
        value(ring, 19, 'd', 1, 18);
    }

    private static void linksToMarked() {
        Doc.term("99 if there is no such account;");
        FraudSieve x = Scenes.withAccounts(5);
        x.pay(0, 1, 5);
        x.pay(2, 3, 5);
        value(x, 0, 'd', 1, 99);
        x.setMarked(2, true);
        value(x, 0, 'd', 1, 99);
        value(x, 1, 'd', 1, 1);
        Doc.term("the links, too, are those of the window at the minute of the payment;");
        FraudSieve y = Scenes.withAccounts(5);
        y.pay(3, 2, 5);
        y.pass(5);
        y.pay(0, 2, 5);
        y.pay(2, 4, 5);
        y.setMarked(3, true);
        y.setMarked(4, true);
        value(y, 1, 'd', 5, 99);
        value(y, 1, 'd', 6, 1);
        Scenes.pass(y, LONGEST_WINDOW);
        value(y, 1, 'd', 5, 99);
        value(y, 1, 'd', 6, 1);
    }

    private static void firstOfPair() {
        Doc.term("'f': 1 if its payer has not paid its receiver before, and otherwise 0,"
                + " whatever the window is;");
        FraudSieve x = Scenes.withAccounts(3);
        x.pay(0, 1, 5);
        x.pay(1, 0, 5);
        x.pay(0, 2, 5);
        x.pay(2, 1, 5);
        x.pay(0, 1, 5);
        Scenes.pass(x, 2 * LONGEST_WINDOW);
        x.pay(1, 0, 5);
        for (int window : new int[] {1, LONGEST_WINDOW}) {
            values(x, 'f', window, 1, 1, 1, 1, 0, 0);
        }
        value(paidByOne(1), 18, 'f', 1, 1);
        value(paidByOne(1), 19, 'f', 1, 0);
    }

    private static void sinceLast() {
        Doc.term("'q': the number of minutes since the payment of its payer before this one,"
                + " 99999 if there is none, whatever the window is;");
        FraudSieve x = Scenes.withAccounts(2);
        x.pay(0, 1, 5);
        x.pay(0, 1, 5);
        x.pass(15);
        x.pay(1, 0, 5);
        x.pay(0, 1, 5);
        Scenes.pass(x, 99998);
        x.pay(0, 1, 5);
        x.pass(1);
        x.pay(1, 0, 5);
        x.pass(1440);
        Scenes.pass(x, 100000 - 1440);
        x.pay(1, 0, 5);
        for (int window : new int[] {1, LONGEST_WINDOW}) {
            values(x, 'q', window, 99999, 0, 99999, 15, 99998, 99999, 100000);
        }
    }

    private static void age() {
        Doc.term("'a': the number of minutes from the opening of its payer to the payment,"
                + " whatever the window is.");
        FraudSieve x = Scenes.withAccounts(1);
        x.pass(7);
        x.open('b');
        x.pay(1, 0, 5);
        x.pay(0, 1, 5);
        x.pass(1);
        x.pay(1, 0, 5);
        Scenes.pass(x, 4 * LONGEST_WINDOW);
        x.pay(1, 0, 5);
        for (int window : new int[] {1, LONGEST_WINDOW}) {
            values(x, 'a', window, 0, 7, 1, 4 * LONGEST_WINDOW + 1);
        }
    }

    private static void valueOf() {
        Doc.promise(16, "Returns the value of a feature of a payment.");
        features(Scenes.withPayment(950), 0, 1, 1, 950, 950, 1, 1, 1, 0, 2, 0, 99, 1, 99999, 0);
        Doc.promise(16, "`payment`: the number of the payment");
        FraudSieve full = paidByOne(1);
        value(full, 0, 'n', 1, 1);
        value(full, 1, 'n', 1, 2);
        value(full, 198, 'n', 1, 199);
        value(full, 199, 'n', 1, 200);
        Doc.promise(16, "`feature`: the letter of the feature");
        features(full, 199, 1, 200, 200, 1, 0, 19, 4, 0, 20, 0, 99, 0, 0, 0);
        Doc.promise(16, "`window`: the window in minutes, 1 to 10080");
        FraudSieve x = Scenes.withAccounts(2);
        x.pay(0, 1, 900);
        x.pay(1, 0, 3);
        Scenes.pass(x, LONGEST_WINDOW - 1);
        x.pay(0, 1, 5);
        features(x, 2, 1, 1, 5, 5, 0, 1, 1, 0, 2, 0, 99, 0, 10079, 10079);
        features(x, 2, LONGEST_WINDOW, 2, 905, 900, 1, 1, 1, 3, 2, 2, 99, 0, 10079, 10079);
        x.pass(1);
        x.pay(0, 1, 5);
        features(x, 3, LONGEST_WINDOW, 2, 10, 5, 0, 1, 1, 0, 2, 0, 99, 0, 1, 10080);
        Doc.promise(16, "Returns the value; for the feature 'd' by the accounts that are marked"
                + " now.");
        value(x, 0, 'd', 1, 99);
        x.setMarked(0, true);
        value(x, 0, 'd', 1, 1);
        x.setMarked(1, true);
        value(x, 0, 'd', 1, 0);
        x.setMarked(0, false);
        x.setMarked(1, false);
        value(x, 0, 'd', 1, 99);
    }

    private static void valueOfThatIsRefused() {
        Doc.promise(16, "Throws `NoSuchElementException` if there is no such payment");
        for (char feature : FEATURES.toCharArray()) {
            Refused.payments((x, payment) -> x.valueOf(payment, feature, 1));
        }
        Doc.promise(16, "Throws `IllegalArgumentException` if there is no such feature, or the"
                + " window is out of range");
        int[] signs = {'a' - 1, 'b', 'e', 'h', 'j', 'o', 'p', 't', 'z', 'N', 0, 'n' + 256, 65535};
        for (int sign : signs) {
            Refused.call("sign " + sign, Check.ARGUMENT, Scenes.MIXED,
                    x -> x.valueOf(0, (char) sign, 1));
        }
        for (char feature : FEATURES.toCharArray()) {
            Refused.windows(Scenes.MIXED, (x, window) -> x.valueOf(5, feature, window));
        }
        Refused.windows(Scenes.FULL, (x, window) -> x.valueOf(199, 'k', window));
    }
}
