/** Promises 1 to 7, and the terms about accounts. */
final class AccountPromises {
    private AccountPromises() {
    }

    static void run() {
        terms();
        newObject();
        open();
        setMarked();
        setBlocked();
        isMarked();
        countryOf();
        accounts();
    }

    private static void terms() {
        Doc.term("Accounts. At most 20 accounts have the numbers 0, 1, 2 and so on in the order"
                + " in which they were opened.");
        FraudSieve x = new FraudSieve();
        for (int i = 0; i < 20; i++) {
            int account = i;
            Check.same("number", account, () -> x.open((char) ('a' + account % 3)));
        }
        for (int i = 0; i < 20; i++) {
            int account = i;
            Check.same("order", (char) ('a' + account % 3), () -> x.countryOf(account));
        }
        Check.fails("one more", Check.STATE, () -> x.open('a'));
        Doc.term("An account has a country from 'a' to 'd' and can be marked, blocked or both;");
        for (char country : "abcd".toCharArray()) {
            states(country, false, false);
            states(country, true, false);
            states(country, false, true);
            states(country, true, true);
        }
        Doc.term("at first it is neither.");
        FraudSieve full = Scenes.withAccounts(20);
        for (int i = 0; i < 20; i++) {
            int account = i;
            Check.same("not marked", false, () -> full.isMarked(account));
            Check.same("not blocked", false, () -> full.setBlocked(account, false));
        }
    }

    private static void states(char country, boolean isMarked, boolean isBlocked) {
        FraudSieve x = Scenes.withAccounts(2);
        int account = x.open(country);
        x.setMarked(account, isMarked);
        x.setBlocked(account, isBlocked);
        Check.same("country", country, () -> x.countryOf(account));
        Check.same("marked", isMarked, () -> x.isMarked(account));
        Object paid = isBlocked ? "throws java.lang.IllegalStateException" : 0;
        Check.same("pays", paid, () -> x.pay(account, 0, 1));
        Check.same("blocked", isBlocked, () -> x.setBlocked(account, false));
        Check.same("still marked", isMarked, () -> x.setMarked(account, false));
        Check.same("another one is not marked", false, () -> x.isMarked(1));
        Check.same("another one is not blocked", false, () -> x.setBlocked(1, false));
    }

    private static void newObject() {
        Doc.promise(1, "Creates a finder without accounts, payments, conditions and rules,"
                + " at the time 0.");
        FraudSieve x = new FraudSieve();
        Check.same("accounts", 0, x::accounts);
        Check.same("payments", 0, x::payments);
        Check.same("time", 0, x::time);
        Check.same("kept", 0, x::kept);
        Check.same("open alerts", 0, x::openAlerts);
        Check.same("turnover", 0L, x::turnover);
        Check.same("sound", true, x::isSound);
        Check.same("caught", 0, () -> x.caught(1));
        Check.same("best threshold", 1, () -> x.bestThreshold(0));
        Check.same("best threshold", 1, () -> x.bestThresholdByTrying(0));
        Check.fails("no account", Check.INDEX, () -> x.isMarked(0));
        Check.fails("no payment", Check.ELEMENT, () -> x.score(0));
        Check.fails("no condition", Check.INDEX, () -> x.sizeOf(0));
        Check.fails("no rule", Check.INDEX, () -> x.setRule(0, false));
        Check.fails("no alert", Check.ELEMENT, x::nextAlert);
        Check.fails("no mean", Check.ARITHMETIC, x::meanScore);
        Check.same("first threshold", 50, () -> x.setThreshold(50));
        Check.same("objects are apart", 0, () -> new FraudSieve().open('a'));
        Check.same("objects are apart", 0, x::accounts);
        refusedByNewObject();
    }

    private static void refusedByNewObject() {
        Scenes.Scene none = Scenes.EMPTY;
        Refused.call("open", Check.ARGUMENT, none, x -> x.open('e'));
        Refused.call("pay", Check.INDEX, none, x -> x.pay(0, 0, 1));
        Refused.call("pass", Check.ARGUMENT, none, x -> x.pass(0));
        Refused.call("holds", Check.INDEX, none, x -> x.holds(0, 0));
        Refused.call("addBoth", Check.INDEX, none, x -> x.addBoth(0, 0));
        Refused.call("addEither", Check.INDEX, none, x -> x.addEither(0, 0));
        Refused.call("addNot", Check.INDEX, none, x -> x.addNot(0));
        Refused.call("addRule", Check.INDEX, none, x -> x.addRule(0, 1));
        Refused.call("decide", Check.ELEMENT, none, x -> x.decide(0, true));
        Refused.call("alertAt", Check.INDEX, none, x -> x.alertAt(0));
        Refused.call("setThreshold", Check.ARGUMENT, none, x -> x.setThreshold(0));
    }

    private static void open() {
        Doc.promise(2, "Opens an account at the present time.");
        FraudSieve x = Scenes.withAccounts(1);
        x.pass(7);
        x.open('a');
        x.pay(1, 0, 1);
        x.pass(1);
        x.pay(1, 0, 1);
        x.pay(0, 1, 1);
        Check.same("age at the opening", 0, () -> x.valueOf(0, 'a', 1));
        Check.same("age later", 1, () -> x.valueOf(1, 'a', 1));
        Check.same("age of an older one", 8, () -> x.valueOf(2, 'a', 1));
        Doc.promise(2, "`country`: the country, 'a' to 'd'");
        FraudSieve four = new FraudSieve();
        for (int i = 0; i < 4; i++) {
            char country = (char) ('a' + i);
            Check.same("opens", i, () -> four.open(country));
            Check.same("country", country, () -> four.countryOf(country - 'a'));
        }
        Doc.promise(2, "Returns the number of the account.");
        Check.same("next", 4, () -> four.open('d'));
        Doc.promise(2, "Throws `IllegalArgumentException` if there is no such country");
        int[] wrong = {'a' - 1, 'd' + 1, 'A', 'D', 0, ' ', 127, 'a' + 256, 65535, 32768 + 'a'};
        for (int sign : wrong) {
            Refused.call("sign " + sign, Check.ARGUMENT, Scenes.EMPTY, y -> y.open((char) sign));
            Refused.call("sign " + sign, Check.ARGUMENT, Scenes.MIXED, y -> y.open((char) sign));
        }
        Doc.promise(2, "Throws `IllegalStateException` if there are 20 accounts");
        Check.same("the 20th", 19, () -> Scenes.withAccounts(19).open('d'));
        Refused.call("the 21st", Check.STATE, Scenes.FULL, y -> y.open('a'));
        Refused.call("the 21st", Check.STATE, Scenes.FULL, y -> y.open('d'));
    }

    private static void setMarked() {
        Doc.promise(3, "Marks an account, or ends that.");
        FraudSieve x = Scenes.withAccounts(20);
        x.setMarked(4, true);
        Check.same("marks", true, () -> x.isMarked(4));
        x.setMarked(4, false);
        Check.same("ends", false, () -> x.isMarked(4));
        Doc.promise(3, "`account`: the number of the account");
        for (int account : new int[] {0, 19}) {
            Check.same("was not", false, () -> x.setMarked(account, true));
            Check.same("is", true, () -> x.isMarked(account));
        }
        Check.same("others are not", false, () -> x.isMarked(1) || x.isMarked(18));
        Doc.promise(3, "`isMarked`: whether it is marked from now on");
        x.setMarked(19, true);
        Check.same("marked twice", true, () -> x.isMarked(19));
        x.setMarked(18, false);
        Check.same("ended twice", false, () -> x.isMarked(18));
        Doc.promise(3, "Returns whether it was marked before.");
        Check.same("was, stays", true, () -> x.setMarked(19, true));
        Check.same("was, ends", true, () -> x.setMarked(19, false));
        Check.same("was not, stays", false, () -> x.setMarked(19, false));
        Check.same("was not, is", false, () -> x.setMarked(19, true));
        Doc.promise(3, "Throws `IndexOutOfBoundsException` if there is no such account");
        Refused.accounts((y, account) -> y.setMarked(account, true));
        Refused.accounts((y, account) -> y.setMarked(account, false));
    }

    private static void setBlocked() {
        Doc.promise(4, "Blocks an account, or ends that.");
        FraudSieve x = Scenes.withAccounts(20);
        x.setBlocked(4, true);
        Check.fails("does not pay", Check.STATE, () -> x.pay(4, 5, 1));
        Check.fails("does not receive", Check.STATE, () -> x.pay(5, 4, 1));
        Check.same("others pay", 0, () -> x.pay(5, 6, 1));
        x.setBlocked(4, false);
        Check.same("pays again", 1, () -> x.pay(4, 5, 1));
        Check.same("receives again", 2, () -> x.pay(5, 4, 1));
        Doc.promise(4, "`account`: the number of the account");
        for (int account : new int[] {0, 19}) {
            Check.same("was not", false, () -> x.setBlocked(account, true));
            Check.fails("is", Check.STATE, () -> x.pay(account, 7, 1));
        }
        Check.same("others are not", 3, () -> x.pay(1, 18, 1));
        Doc.promise(4, "`isBlocked`: whether it is blocked from now on");
        x.setBlocked(19, true);
        Check.fails("blocked twice", Check.STATE, () -> x.pay(19, 7, 1));
        x.setBlocked(18, false);
        Check.same("ended twice", 4, () -> x.pay(18, 7, 1));
        Doc.promise(4, "Returns whether it was blocked before.");
        Check.same("was, stays", true, () -> x.setBlocked(19, true));
        Check.same("was, ends", true, () -> x.setBlocked(19, false));
        Check.same("was not, stays", false, () -> x.setBlocked(19, false));
        Check.same("was not, is", false, () -> x.setBlocked(19, true));
        Doc.promise(4, "Throws `IndexOutOfBoundsException` if there is no such account");
        Refused.accounts((y, account) -> y.setBlocked(account, true));
        Refused.accounts((y, account) -> y.setBlocked(account, false));
    }

    private static void isMarked() {
        Doc.promise(5, "Returns whether an account is marked.");
        FraudSieve x = Scenes.withAccounts(20);
        x.setMarked(3, true);
        Check.same("marked", true, () -> x.isMarked(3));
        x.setMarked(3, false);
        Check.same("no more", false, () -> x.isMarked(3));
        Doc.promise(5, "`account`: the number of the account");
        x.setMarked(0, true);
        x.setMarked(18, true);
        Check.same("first", true, () -> x.isMarked(0));
        Check.same("last", false, () -> x.isMarked(19));
        Doc.promise(5, "Returns whether it is.");
        Check.same("is", true, () -> x.isMarked(18));
        Check.same("is not", false, () -> x.isMarked(17));
        Doc.promise(5, "Throws `IndexOutOfBoundsException` if there is no such account");
        Refused.accounts((y, account) -> y.isMarked(account));
    }

    private static void countryOf() {
        Doc.promise(6, "Returns the country of an account.");
        FraudSieve x = Scenes.withAccounts("dcbaaaaaaaaaaaaaaaab");
        Check.same("second", 'c', () -> x.countryOf(1));
        Doc.promise(6, "`account`: the number of the account");
        Check.same("first", 'd', () -> x.countryOf(0));
        Check.same("last", 'b', () -> x.countryOf(19));
        Doc.promise(6, "Returns the country.");
        Check.same("least", 'a', () -> x.countryOf(3));
        Check.same("greatest", 'd', () -> x.countryOf(0));
        Doc.promise(6, "Throws `IndexOutOfBoundsException` if there is no such account");
        Refused.accounts((y, account) -> y.countryOf(account));
    }

    private static void accounts() {
        Doc.promise(7, "Returns the number of accounts.");
        FraudSieve x = new FraudSieve();
        Check.same("none", 0, x::accounts);
        for (int i = 1; i <= 20; i++) {
            x.open('a');
            Check.same("after open", i, x::accounts);
        }
        Check.fails("no room", Check.STATE, () -> x.open('a'));
        Check.same("full", 20, x::accounts);
    }
}
