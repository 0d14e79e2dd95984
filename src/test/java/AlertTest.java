/** Promises 33 to 37: alerts. */
public final class AlertTest {
    public static void main(String[] args) {
        order();
        decisions();
        wrongInputs();
        Check.finish();
    }

    /** Payments of an amount under 10, 10 or more, 20 or more score 0, 30, 70. */
    private static FraudSieve withRules() {
        FraudSieve x = new FraudSieve();
        x.open('a');
        x.open('b');
        x.addRule(x.addTest('m', 1, true, 10), 30);
        x.addRule(x.addTest('m', 1, true, 20), 40);
        x.setThreshold(30);
        return x;
    }

    private static void payApart(FraudSieve x, int amount) {
        x.pass(1);
        x.pay(0, 1, amount);
    }

    private static void order() {
        FraudSieve x = withRules();
        Check.fails("33 none", Check.ELEMENT, x::nextAlert);
        Check.fails("34 none", Check.INDEX, () -> x.alertAt(0));
        for (int amount : new int[] {10, 5, 20, 10, 20}) {
            payApart(x, amount);
        }
        int[] due = {2, 4, 0, 3};
        Check.same("35", due.length, x::openAlerts);
        for (int i = 0; i < due.length; i++) {
            int rank = i;
            Check.same("34 rank " + rank, due[rank], () -> x.alertAt(rank));
        }
        for (int rank : new int[] {-1, 4, Integer.MIN_VALUE, Integer.MAX_VALUE}) {
            Check.fails("34 rank " + rank, Check.INDEX, () -> x.alertAt(rank));
        }
        Check.same("36 out of the order", 3, () -> x.decide(0, false));
        Check.same("34 moves up", 3, () -> x.alertAt(2));
        for (int payment : new int[] {2, 4, 3}) {
            Check.same("33", payment, x::nextAlert);
            x.decide(payment, false);
        }
        Check.fails("33 all decided", Check.ELEMENT, x::nextAlert);
        Check.fails("34 all decided", Check.INDEX, () -> x.alertAt(0));
        Check.same("35 all decided", 0, x::openAlerts);
    }

    private static void decisions() {
        FraudSieve x = withRules();
        payApart(x, 10);
        payApart(x, 5);
        payApart(x, 20);
        Check.same("37 open", 'o', () -> x.alertOf(0));
        Check.same("37 none", '-', () -> x.alertOf(1));
        Check.same("36 no fraud", 1, () -> x.decide(0, false));
        Check.same("36 marks nobody", false, () -> x.isMarked(1));
        Check.same("37 no fraud", 'c', () -> x.alertOf(0));
        Check.same("36 fraud", 0, () -> x.decide(2, true));
        Check.same("36 marks the receiver", true, () -> x.isMarked(1));
        Check.same("36 not the payer", false, () -> x.isMarked(0));
        Check.same("37 fraud", 'f', () -> x.alertOf(2));
        Check.fails("36 decided", Check.STATE, () -> x.decide(0, true));
        Check.fails("36 decided", Check.STATE, () -> x.decide(2, false));
        Check.fails("36 no alert", Check.STATE, () -> x.decide(1, true));
        Check.same("37 stays", 'f', () -> x.alertOf(2));
        Check.same("36 the score stays", 70, () -> x.score(2));
        Check.same("36 a mark stays", true, () -> x.setMarked(1, false));
        Check.same("37 no mark, still fraud", 'f', () -> x.alertOf(2));
    }

    private static void wrongInputs() {
        FraudSieve x = withRules();
        payApart(x, 20);
        for (int wrong : new int[] {-1, 1, Integer.MIN_VALUE, Integer.MAX_VALUE}) {
            Check.fails("36 payment", Check.ELEMENT, () -> x.decide(wrong, true));
            Check.fails("37 payment", Check.ELEMENT, () -> x.alertOf(wrong));
        }
        Check.same("35 unchanged", 1, x::openAlerts);
        Check.same("33 unchanged", 0, x::nextAlert);
    }
}
