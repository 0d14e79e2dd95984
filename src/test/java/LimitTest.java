/** An object that is full (20 accounts, 200 payments, 30 conditions, 12 rules), and 512 calls. */
public final class LimitTest {
    private static final FraudSieve x = new FraudSieve();

    public static void main(String[] args) {
        fill();
        payments();
        features();
        reasons();
        alerts();
        review();
        later();
        lastCalls();
        Check.finish();
    }

    /** In each of the minutes 1 to 10, each account pays the next one, and the last the first. */
    private static void fill() {
        for (int account = 0; account < 20; account++) {
            x.open((char) ('a' + account % 4));
        }
        for (int condition = 0; condition < 29; condition++) {
            x.addTest('n', 10080, true, 10);
        }
        x.addTest('k', 10080, true, 20);
        for (int rule = 0; rule < 11; rule++) {
            x.addRule(rule, 10);
        }
        x.addRule(29, 10);
        x.setThreshold(120);
        for (int payment = 0; payment < 200; payment++) {
            if (payment % 20 == 0) {
                x.pass(1);
            }
            x.pay(payment % 20, (payment + 1) % 20, 900 + payment);
        }
    }

    private static void payments() {
        Check.same("11", 200, x::payments);
        Check.same("15", 200, x::kept);
        Check.same("12", 10, () -> x.minuteOf(199));
        Check.same("13", 9900, () -> x.sentBy(0, 10080));
        Check.same("14", 9900, () -> x.sentByAnew(0, 10080));
        Check.same("13", 1099, () -> x.sentBy(19, 1));
        Check.same("14", 1099, () -> x.sentByAnew(19, 1));
        Check.same("38", 20, () -> x.ring(19, 1));
        Check.same("39", 20, () -> x.ringByTrying(19, 1));
        Check.same("40", 20, () -> x.group(19, 1));
        Check.same("46", 199900L, x::turnover);
        Check.same("47", true, x::isSound);
    }

    private static void value(char feature, int window, int due) {
        Check.same("16 " + feature, due, () -> x.valueOf(199, feature, window));
    }

    private static void features() {
        value('n', 1, 1);
        value('n', 10080, 10);
        value('s', 10080, 10090);
        value('m', 10080, 1099);
        value('l', 10080, 5);
        value('r', 10080, 1);
        value('c', 10080, 1);
        value('i', 10080, 10080);
        value('g', 1, 20);
        value('k', 1, 20);
        value('d', 1, 99);
        value('f', 1, 0);
        value('q', 1, 1);
        value('a', 1, 10);
        Check.same("21 last", true, () -> x.holds(29, 19));
        Check.same("21 last", false, () -> x.holds(29, 18));
        Check.same("21 last but one", false, () -> x.holds(28, 179));
    }

    private static void reasons() {
        Check.same("26", 0, () -> x.score(18));
        Check.same("26", 10, () -> x.score(19));
        Check.same("26", 120, () -> x.score(199));
        Check.same("27", 120, () -> x.scoreNow(199));
        Check.same("28", 12, () -> x.reasons(199));
        Check.same("29", 11, () -> x.reasonRule(199, 11));
        Check.fails("29", Check.INDEX, () -> x.reasonRule(199, 12));
        Check.same("30", 1, () -> x.reasonTests(199, 11));
        Check.fails("30", Check.INDEX, () -> x.reasonTests(199, 12));
        Check.same("31", 'k', () -> x.reasonFeature(199, 11, 0));
        Check.same("32", 20, () -> x.reasonValue(199, 11, 0));
        Check.same("32", 10, () -> x.reasonValue(199, 0, 0));
        Check.same("45", 20.05, x::meanScore);
        Check.same("24", true, () -> x.setRule(11, false));
        Check.same("27", 110, () -> x.scoreNow(199));
    }

    private static void alerts() {
        Check.same("35", 20, x::openAlerts);
        Check.same("33", 180, x::nextAlert);
        Check.same("34", 199, () -> x.alertAt(19));
        Check.fails("34", Check.INDEX, () -> x.alertAt(20));
        Check.same("36", 19, () -> x.decide(199, true));
        Check.same("36 marks the receiver", true, () -> x.isMarked(0));
        Check.same("16 d by the marks now", 0, () -> x.valueOf(199, 'd', 1));
        for (int payment = 180; payment < 199; payment++) {
            int number = payment;
            Check.same("36", 198 - number, () -> x.decide(number, false));
        }
        Check.fails("33", Check.ELEMENT, x::nextAlert);
        Check.fails("34", Check.INDEX, () -> x.alertAt(0));
    }

    private static void review() {
        Check.same("41", 1, () -> x.caught(120));
        Check.same("41", 0, () -> x.caught(121));
        Check.same("42", 121, () -> x.bestThreshold(18));
        Check.same("43", 121, () -> x.bestThresholdByTrying(18));
        Check.same("42", 1, () -> x.bestThreshold(19));
        Check.same("43", 1, () -> x.bestThresholdByTrying(19));
        Check.same("44", 1f / 20f, () -> x.precision(11));
    }

    private static void later() {
        for (int day = 0; day < 6; day++) {
            x.pass(1440);
        }
        x.pass(1439);
        Check.same("15 last round", 20, x::kept);
        Check.same("13 last round", 1099, () -> x.sentBy(19, 10080));
        x.pass(1);
        Check.same("15 none", 0, x::kept);
        Check.same("13 none", 0, () -> x.sentBy(19, 10080));
        Check.same("14 none", 0, () -> x.sentByAnew(19, 10080));
        Check.fails("38 none", Check.ELEMENT, () -> x.ring(19, 10080));
        Check.same("47 none", true, x::isSound);
    }

    private static void lastCalls() {
        Doc.says("What it is", "An object is used for at most 512 calls after it has been made;");
        FraudSieve passing = new FraudSieve();
        for (int call = 1; call <= 512; call++) {
            int due = 1440 * call;
            Check.same("call " + call, due, () -> passing.pass(1440));
        }
        FraudSieve paying = Scenes.withAccounts(2);
        paying.pay(0, 1, 1);
        for (int call = 4; call <= 509; call++) {
            paying.pass(1440);
        }
        Check.same("call 510", 1, () -> paying.pay(0, 1, 1));
        Check.same("call 511", 506 * 1440, () -> paying.valueOf(1, 'q', 1));
        Check.same("call 512", 506 * 1440, () -> paying.valueOf(1, 'a', 10080));
    }
}
