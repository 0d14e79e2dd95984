/** Promises 1 to 7: a new object and its accounts. */
public final class AccountTest {
    public static void main(String[] args) {
        newObject();
        open();
        marks();
        blocks();
        Check.finish();
    }

    private static void newObject() {
        FraudSieve x = new FraudSieve();
        Check.same("1 accounts", 0, x::accounts);
        Check.same("1 payments", 0, x::payments);
        Check.same("1 time", 0, x::time);
        Check.same("1 kept", 0, x::kept);
        Check.same("1 openAlerts", 0, x::openAlerts);
        Check.same("1 turnover", 0L, x::turnover);
        Check.same("1 isSound", true, x::isSound);
        Check.fails("1 no account", Check.INDEX, () -> x.isMarked(0));
        Check.fails("1 no payment", Check.ELEMENT, () -> x.score(0));
        Check.fails("1 no condition", Check.INDEX, () -> x.sizeOf(0));
        Check.fails("1 no rule", Check.INDEX, () -> x.setRule(0, false));
        Check.same("1 first threshold", 50, () -> x.setThreshold(50));
        Check.same("1 objects are apart", 0, () -> new FraudSieve().open('a'));
        Check.same("1 objects are apart", 0, x::accounts);
    }

    private static void open() {
        FraudSieve x = new FraudSieve();
        char[] wrong = {'e', '`', 'A', 'D', (char) 0, ' ', (char) 255, (char) 65535, (char) 353};
        for (char country : wrong) {
            Check.fails("2 country " + (int) country, Check.ARGUMENT, () -> x.open(country));
        }
        Check.same("2 nothing opened", 0, x::accounts);
        for (int i = 0; i < 20; i++) {
            int account = i;
            char country = (char) ('a' + i % 4);
            Check.same("2 number", account, () -> x.open(country));
            Check.same("7 count", account + 1, x::accounts);
            Check.same("6 country", country, () -> x.countryOf(account));
            Check.same("5 not marked at first", false, () -> x.isMarked(account));
        }
        Check.fails("2 full", Check.STATE, () -> x.open('a'));
        Check.fails("2 country before full", Check.ARGUMENT, () -> x.open('e'));
        Check.same("7 full", 20, x::accounts);
        Check.same("6 first", 'a', () -> x.countryOf(0));
        Check.same("6 last", 'd', () -> x.countryOf(19));
        for (int account : new int[] {-1, 20, Integer.MIN_VALUE, Integer.MAX_VALUE}) {
            Check.fails("6 account " + account, Check.INDEX, () -> x.countryOf(account));
        }
    }

    private static void marks() {
        FraudSieve x = new FraudSieve();
        for (int i = 0; i < 20; i++) {
            x.open('a');
        }
        Check.same("3 was not", false, () -> x.setMarked(19, true));
        Check.same("5 is", true, () -> x.isMarked(19));
        Check.same("5 another is not", false, () -> x.isMarked(18));
        Check.same("3 was, again", true, () -> x.setMarked(19, true));
        Check.same("5 still is", true, () -> x.isMarked(19));
        Check.same("3 ends", true, () -> x.setMarked(19, false));
        Check.same("5 is no more", false, () -> x.isMarked(19));
        Check.same("3 ended before", false, () -> x.setMarked(19, false));
        Check.same("3 first account", false, () -> x.setMarked(0, true));
        Check.same("5 first account", true, () -> x.isMarked(0));
        Check.same("4 a mark does not block", false, () -> x.setBlocked(0, false));
        Check.same("10 a marked one can pay", 0, () -> x.pay(0, 1, 5));
        for (int account : new int[] {-1, 20, 32, Integer.MIN_VALUE, Integer.MAX_VALUE}) {
            Check.fails("3 account " + account, Check.INDEX, () -> x.setMarked(account, true));
            Check.fails("5 account " + account, Check.INDEX, () -> x.isMarked(account));
        }
    }

    private static void blocks() {
        FraudSieve x = new FraudSieve();
        x.open('a');
        x.open('b');
        x.open('c');
        Check.same("4 was not", false, () -> x.setBlocked(1, true));
        Check.same("4 was, again", true, () -> x.setBlocked(1, true));
        Check.same("4 another is not", false, () -> x.setBlocked(0, false));
        Check.same("4 a block does not mark", false, () -> x.isMarked(1));
        Check.fails("4 receiver", Check.STATE, () -> x.pay(0, 1, 5));
        Check.fails("4 payer", Check.STATE, () -> x.pay(1, 0, 5));
        Check.same("4 others can pay", 0, () -> x.pay(0, 2, 5));
        Check.same("4 ends", true, () -> x.setBlocked(1, false));
        Check.same("4 pays again", 1, () -> x.pay(1, 0, 5));
        Check.same("3 both at once", false, () -> x.setMarked(1, true));
        Check.same("4 both at once", false, () -> x.setBlocked(1, true));
        Check.same("3 mark ends alone", true, () -> x.setMarked(1, false));
        Check.same("4 block stays", true, () -> x.setBlocked(1, true));
        for (int account : new int[] {-1, 3, 33, Integer.MIN_VALUE, Integer.MAX_VALUE}) {
            Check.fails("4 account " + account, Check.INDEX, () -> x.setBlocked(account, true));
        }
    }
}
