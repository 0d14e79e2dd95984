/** Promise 16: the value of each feature of a payment. */
public final class FeatureTest {
    public static void main(String[] args) {
        payerFeatures();
        lowAmounts();
        countries();
        windowEdges();
        laterPayments();
        pairs();
        ages();
        groups();
        rings();
        markedAccounts();
        wrongInputs();
        Check.finish();
    }

    private static FraudSieve withAccounts(String countries) {
        FraudSieve x = new FraudSieve();
        for (char country : countries.toCharArray()) {
            x.open(country);
        }
        return x;
    }

    private static void value(FraudSieve x, int payment, char feature, int window, int due) {
        String label = "16 " + feature + " of " + payment + " in " + window;
        Check.same(label, due, () -> x.valueOf(payment, feature, window));
    }

    private static void payerFeatures() {
        FraudSieve x = withAccounts("abc");
        x.pay(0, 1, 30);
        x.pay(1, 0, 500);
        x.pay(2, 0, 60);
        x.pay(0, 2, 50);
        x.pay(0, 2, 40);
        value(x, 0, 'n', 1, 1);
        value(x, 0, 's', 1, 30);
        value(x, 0, 'm', 1, 30);
        value(x, 0, 'r', 1, 1);
        value(x, 0, 'i', 1, 0);
        value(x, 2, 'i', 1, 0);
        value(x, 4, 'n', 1, 3);
        value(x, 4, 's', 1, 120);
        value(x, 4, 'm', 1, 50);
        value(x, 4, 'r', 1, 2);
        value(x, 4, 'i', 1, 560);
        value(x, 1, 'i', 1, 30);
    }

    private static void lowAmounts() {
        FraudSieve x = withAccounts("ab");
        int[] amounts = {899, 900, 950, 999, 1000, 9999};
        int[] due = {0, 1, 2, 3, 3, 3};
        for (int i = 0; i < amounts.length; i++) {
            int payment = x.pay(0, 1, amounts[i]);
            value(x, payment, 'l', 1, due[i]);
        }
        x.pay(1, 0, 900);
        value(x, 6, 'l', 1, 1);
    }

    private static void countries() {
        FraudSieve x = withAccounts("aaabcd");
        x.pay(0, 1, 1);
        x.pay(0, 2, 1);
        value(x, 1, 'r', 1, 2);
        value(x, 1, 'c', 1, 1);
        x.pay(0, 3, 1);
        value(x, 2, 'c', 1, 2);
        x.pay(0, 4, 1);
        x.pay(0, 5, 1);
        x.pay(0, 5, 1);
        value(x, 5, 'r', 1, 5);
        value(x, 5, 'c', 1, 4);
        x.pay(5, 4, 1);
        value(x, 6, 'c', 1, 1);
        x.pay(4, 0, 1);
        value(x, 7, 'c', 1, 1);
    }

    private static void windowEdges() {
        FraudSieve x = withAccounts("ab");
        x.pay(0, 1, 901);
        x.pay(1, 0, 70);
        x.pass(10);
        x.pay(0, 1, 3);
        x.pass(100);
        value(x, 2, 'n', 10, 1);
        value(x, 2, 'n', 11, 2);
        value(x, 2, 's', 10, 3);
        value(x, 2, 's', 11, 904);
        value(x, 2, 'm', 10, 3);
        value(x, 2, 'm', 11, 901);
        value(x, 2, 'l', 10, 0);
        value(x, 2, 'l', 11, 1);
        value(x, 2, 'i', 10, 0);
        value(x, 2, 'i', 11, 70);
        value(x, 2, 'k', 10, 0);
        value(x, 2, 'k', 11, 2);
        value(x, 2, 'n', 10080, 2);
        value(x, 0, 'n', 10080, 1);
    }

    private static void laterPayments() {
        FraudSieve x = withAccounts("abc");
        x.pay(0, 1, 5);
        x.pay(1, 2, 5);
        x.pay(2, 0, 5);
        x.pay(0, 2, 900);
        x.setMarked(2, true);
        value(x, 0, 'n', 1, 1);
        value(x, 0, 's', 1, 5);
        value(x, 0, 'm', 1, 5);
        value(x, 0, 'l', 1, 0);
        value(x, 0, 'r', 1, 1);
        value(x, 0, 'c', 1, 1);
        value(x, 0, 'i', 1, 0);
        value(x, 0, 'g', 1, 2);
        value(x, 0, 'k', 1, 0);
        value(x, 0, 'd', 1, 99);
        value(x, 0, 'f', 1, 1);
        value(x, 0, 'q', 1, 99999);
    }

    private static void pairs() {
        FraudSieve x = withAccounts("abc");
        x.pay(0, 1, 5);
        x.pay(1, 0, 5);
        x.pay(0, 2, 5);
        x.pass(1000);
        x.pay(0, 1, 5);
        value(x, 0, 'f', 1, 1);
        value(x, 1, 'f', 1, 1);
        value(x, 2, 'f', 1, 1);
        value(x, 3, 'f', 1, 0);
        value(x, 3, 'f', 10080, 0);
    }

    private static void ages() {
        FraudSieve x = withAccounts("a");
        x.pass(7);
        x.open('b');
        x.pass(3);
        x.pay(1, 0, 5);
        x.pay(0, 1, 5);
        value(x, 0, 'a', 1, 3);
        value(x, 1, 'a', 1, 10);
        value(x, 1, 'q', 1, 99999);
        x.pay(0, 1, 5);
        value(x, 2, 'q', 1, 0);
        x.pass(15);
        x.pay(1, 0, 5);
        x.pay(0, 1, 5);
        value(x, 3, 'q', 1, 15);
        value(x, 4, 'q', 1, 15);
        value(x, 4, 'a', 1, 25);
        FraudSieve old = withAccounts("ab");
        old.pay(0, 1, 1);
        for (int day = 0; day < 70; day++) {
            old.pass(1440);
        }
        old.pay(0, 1, 1);
        value(old, 1, 'q', 1, 100800);
        value(old, 1, 'a', 10080, 100800);
    }

    private static void groups() {
        FraudSieve x = withAccounts("aaaaaa");
        x.pay(1, 0, 5);
        value(x, 0, 'g', 1, 2);
        x.pay(2, 1, 5);
        x.pay(3, 4, 5);
        value(x, 1, 'g', 1, 3);
        value(x, 2, 'g', 1, 2);
        x.pass(5);
        x.pay(2, 3, 5);
        value(x, 3, 'g', 5, 2);
        value(x, 3, 'g', 6, 5);
        FraudSieve row = withAccounts("aaaaaaaaaaaaaaaaaaaa");
        for (int account = 0; account < 19; account++) {
            row.pay(account, account + 1, 1);
        }
        value(row, 18, 'g', 1, 20);
    }

    private static void rings() {
        FraudSieve x = withAccounts("aaaaa");
        x.pay(1, 2, 5);
        x.pay(2, 3, 5);
        x.pay(3, 0, 5);
        x.pay(0, 1, 5);
        value(x, 3, 'k', 1, 4);
        x.pay(2, 0, 5);
        value(x, 4, 'k', 1, 3);
        x.pay(0, 1, 5);
        value(x, 5, 'k', 1, 3);
        x.pay(1, 0, 5);
        value(x, 6, 'k', 1, 2);
        x.pay(4, 0, 5);
        value(x, 7, 'k', 1, 0);
        x.pay(0, 2, 5);
        value(x, 8, 'k', 1, 2);
        FraudSieve row = withAccounts("aaaaaaaaaaaaaaaaaaaa");
        for (int account = 19; account >= 0; account--) {
            row.pay(account, (account + 1) % 20, 1);
        }
        value(row, 19, 'k', 1, 20);
        value(row, 18, 'k', 1, 0);
    }

    private static void markedAccounts() {
        FraudSieve x = withAccounts("aaaaa");
        x.pay(3, 2, 5);
        x.pass(5);
        x.pay(1, 2, 5);
        x.pay(0, 1, 5);
        x.pay(1, 4, 5);
        value(x, 2, 'd', 10, 99);
        x.setMarked(3, true);
        value(x, 2, 'd', 5, 99);
        value(x, 2, 'd', 6, 2);
        value(x, 1, 'd', 6, 1);
        value(x, 0, 'd', 1, 1);
        x.setMarked(4, true);
        value(x, 3, 'd', 6, 0);
        value(x, 2, 'd', 6, 2);
        x.setMarked(0, true);
        value(x, 2, 'd', 1, 1);
        x.setMarked(1, true);
        value(x, 2, 'd', 1, 0);
        x.setMarked(1, false);
        x.setMarked(0, false);
        value(x, 2, 'd', 6, 2);
        FraudSieve row = withAccounts("aaaaaaaaaaaaaaaaaaaa");
        for (int account = 1; account < 19; account++) {
            row.pay(account, account + 1, 1);
        }
        row.pay(0, 1, 1);
        row.setMarked(19, true);
        value(row, 18, 'd', 1, 18);
        row.pay(1, 0, 1);
        value(row, 19, 'd', 1, 19);
    }

    private static void wrongInputs() {
        FraudSieve x = withAccounts("ab");
        Check.fails("16 none yet", Check.ELEMENT, () -> x.valueOf(0, 'x', 0));
        x.pay(0, 1, 5);
        for (int payment : new int[] {-1, 1, Integer.MIN_VALUE, Integer.MAX_VALUE}) {
            Check.fails("16 payment", Check.ELEMENT, () -> x.valueOf(payment, 'x', 0));
        }
        String known = "nsmlrcigkdfqa";
        for (int sign = 0; sign < 300; sign++) {
            char letter = (char) sign;
            if (known.indexOf(letter) < 0) {
                Check.fails("16 letter " + sign, Check.ARGUMENT, () -> x.valueOf(0, letter, 5));
            }
        }
        for (char letter : known.toCharArray()) {
            for (int window : new int[] {0, -1, 10081, Integer.MIN_VALUE, Integer.MAX_VALUE}) {
                Check.fails("16 window", Check.ARGUMENT, () -> x.valueOf(0, letter, window));
            }
        }
        value(x, 0, 'n', 1, 1);
        value(x, 0, 'n', 10080, 1);
    }
}
