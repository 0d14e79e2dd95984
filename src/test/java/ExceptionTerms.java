import java.util.Set;
import java.util.TreeSet;

/** The terms about exceptions: each one that the document lists, and each two of a promise. */
final class ExceptionTerms {
    private interface Join {
        int add(FraudSieve x, int first, int second);
    }

    private interface AskWindow {
        int of(FraudSieve x, int account, int window);
    }

    private interface AskReason {
        Object of(FraudSieve x, int payment, int reason, int test);
    }

    private static final Class<? extends RuntimeException> INDEX = Check.INDEX;
    private static final Class<? extends RuntimeException> ARGUMENT = Check.ARGUMENT;
    private static final Class<? extends RuntimeException> STATE = Check.STATE;
    private static final Class<? extends RuntimeException> ELEMENT = Check.ELEMENT;
    private static final Class<? extends RuntimeException> ARITHMETIC = Check.ARITHMETIC;
    private static final Class<? extends RuntimeException> UNSUPPORTED = Check.UNSUPPORTED;
    private static final Scenes.Scene EMPTY = Scenes.EMPTY;
    private static final Scenes.Scene MIXED = Scenes.MIXED;
    private static final Scenes.Scene FULL = Scenes.FULL;
    private static final Scenes.Scene SIZES = Scenes.SIZES;

    private static final Set<String> tested = new TreeSet<>();
    private static int promise;

    private ExceptionTerms() {
    }

    static void run() {
        Doc.term("Exceptions. A method that throws an exception changes nothing.");
        oneOfAccountsAndPayments();
        oneOfConditionsAndRules();
        oneOfReasonsAndAlerts();
        oneOfReview();
        Check.same("each exception", Doc.exceptions(), () -> tested);
        Doc.term("If several exceptions apply, the one that is listed first is thrown.");
        tested.clear();
        twoOfPayments();
        twoOfConditions();
        twoOfRulesAndReasons();
        twoOfNetworkAndReview();
        Check.same("each two exceptions", Doc.pairsOfExceptions(), () -> tested);
    }

    private static void one(int number, Class<? extends RuntimeException> due,
            Scenes.Scene scene, Snapshot.Ask call) {
        tested.add(number + " " + due.getSimpleName());
        Refused.call("promise " + number, due, scene, call);
    }

    /** Both exceptions apply to the call, of which the first one is thrown. */
    private static void two(Class<? extends RuntimeException> first,
            Class<? extends RuntimeException> second, Scenes.Scene scene, Snapshot.Ask call) {
        tested.add(promise + " " + first.getSimpleName() + " " + second.getSimpleName());
        Refused.call("promise " + promise, first, scene, call);
    }

    private static void oneOfAccountsAndPayments() {
        one(2, ARGUMENT, MIXED, x -> x.open('e'));
        one(2, STATE, FULL, x -> x.open('d'));
        one(3, INDEX, MIXED, x -> x.setMarked(6, true));
        one(4, INDEX, MIXED, x -> x.setBlocked(6, true));
        one(5, INDEX, MIXED, x -> x.isMarked(6));
        one(6, INDEX, MIXED, x -> x.countryOf(6));
        one(8, ARGUMENT, MIXED, x -> x.pass(1441));
        one(10, INDEX, MIXED, x -> x.pay(0, 6, 1));
        one(10, ARGUMENT, MIXED, x -> x.pay(0, 1, 10000));
        one(10, UNSUPPORTED, MIXED, x -> x.pay(1, 1, 1));
        one(10, STATE, MIXED, x -> x.pay(0, 2, 1));
        one(10, STATE, FULL, x -> x.pay(0, 1, 1));
        one(12, ELEMENT, MIXED, x -> x.minuteOf(6));
        one(13, INDEX, MIXED, x -> x.sentBy(6, 1));
        one(13, ARGUMENT, MIXED, x -> x.sentBy(5, 10081));
        one(14, INDEX, MIXED, x -> x.sentByAnew(6, 1));
        one(14, ARGUMENT, MIXED, x -> x.sentByAnew(5, 10081));
        one(16, ELEMENT, MIXED, x -> x.valueOf(6, 'd', 1));
        one(16, ARGUMENT, MIXED, x -> x.valueOf(5, 'b', 1));
    }

    private static void oneOfConditionsAndRules() {
        one(17, ARGUMENT, MIXED, x -> x.addTest('n', 1, true, 100000));
        one(17, STATE, FULL, x -> x.addTest('n', 1, true, 1));
        one(18, INDEX, MIXED, x -> x.addBoth(0, 7));
        one(18, UNSUPPORTED, SIZES, x -> x.addBoth(7, 6));
        one(18, STATE, FULL, x -> x.addBoth(0, 0));
        one(19, INDEX, MIXED, x -> x.addEither(7, 0));
        one(19, UNSUPPORTED, SIZES, x -> x.addEither(6, 7));
        one(19, STATE, FULL, x -> x.addEither(0, 0));
        one(20, INDEX, MIXED, x -> x.addNot(7));
        one(20, UNSUPPORTED, SIZES, x -> x.addNot(14));
        one(20, STATE, FULL, x -> x.addNot(0));
        one(21, INDEX, MIXED, x -> x.holds(7, 0));
        one(21, ELEMENT, MIXED, x -> x.holds(0, 6));
        one(22, INDEX, MIXED, x -> x.sizeOf(7));
        one(23, INDEX, MIXED, x -> x.addRule(7, 1));
        one(23, ARGUMENT, MIXED, x -> x.addRule(0, 101));
        one(23, STATE, FULL, x -> x.addRule(0, 1));
        one(24, INDEX, MIXED, x -> x.setRule(4, true));
        one(25, ARGUMENT, MIXED, x -> x.setThreshold(1202));
    }

    private static void oneOfReasonsAndAlerts() {
        one(26, ELEMENT, MIXED, x -> x.score(6));
        one(27, ELEMENT, MIXED, x -> x.scoreNow(6));
        one(28, ELEMENT, MIXED, x -> x.reasons(6));
        one(29, ELEMENT, MIXED, x -> x.reasonRule(6, 0));
        one(29, INDEX, MIXED, x -> x.reasonRule(0, 3));
        one(30, ELEMENT, MIXED, x -> x.reasonTests(6, 0));
        one(30, INDEX, MIXED, x -> x.reasonTests(0, 3));
        one(31, ELEMENT, MIXED, x -> x.reasonFeature(6, 0, 0));
        one(31, INDEX, MIXED, x -> x.reasonFeature(0, 2, 0));
        one(32, ELEMENT, MIXED, x -> x.reasonValue(6, 0, 0));
        one(32, INDEX, MIXED, x -> x.reasonValue(0, 2, 0));
        one(33, ELEMENT, EMPTY, FraudSieve::nextAlert);
        one(34, INDEX, MIXED, x -> x.alertAt(3));
        one(36, ELEMENT, MIXED, x -> x.decide(6, true));
        one(36, STATE, MIXED, x -> x.decide(3, true));
        one(37, ELEMENT, MIXED, x -> x.alertOf(6));
    }

    private static void oneOfReview() {
        one(38, INDEX, MIXED, x -> x.ring(6, 1));
        one(38, ARGUMENT, MIXED, x -> x.ring(1, 10081));
        one(38, ELEMENT, MIXED, x -> x.ring(2, 10080));
        one(39, INDEX, MIXED, x -> x.ringByTrying(6, 1));
        one(39, ARGUMENT, MIXED, x -> x.ringByTrying(1, 10081));
        one(39, ELEMENT, MIXED, x -> x.ringByTrying(2, 10080));
        one(40, INDEX, MIXED, x -> x.group(6, 1));
        one(40, ARGUMENT, MIXED, x -> x.group(1, 10081));
        one(41, ARGUMENT, MIXED, x -> x.caught(1202));
        one(42, ARGUMENT, MIXED, x -> x.bestThreshold(201));
        one(43, ARGUMENT, MIXED, x -> x.bestThresholdByTrying(201));
        one(44, INDEX, MIXED, x -> x.precision(4));
        one(44, ARITHMETIC, MIXED, x -> x.precision(3));
        one(45, ARITHMETIC, EMPTY, FraudSieve::meanScore);
    }

    private static void twoOfPayments() {
        promise = 2;
        two(ARGUMENT, STATE, FULL, x -> x.open('e'));
        two(ARGUMENT, STATE, FULL, x -> x.open('`'));
        promise = 10;
        for (int amount : new int[] {0, 10000}) {
            two(INDEX, ARGUMENT, MIXED, x -> x.pay(6, 0, amount));
            two(INDEX, ARGUMENT, MIXED, x -> x.pay(0, -1, amount));
            two(ARGUMENT, UNSUPPORTED, MIXED, x -> x.pay(0, 0, amount));
            two(ARGUMENT, STATE, MIXED, x -> x.pay(2, 0, amount));
            two(ARGUMENT, STATE, MIXED, x -> x.pay(0, 2, amount));
            two(ARGUMENT, STATE, FULL, x -> x.pay(0, 1, amount));
            two(ARGUMENT, STATE, MIXED, x -> x.pay(2, 2, amount));
            two(INDEX, STATE, FULL, x -> x.pay(20, 20, amount));
        }
        two(INDEX, UNSUPPORTED, MIXED, x -> x.pay(6, 6, 1));
        two(INDEX, UNSUPPORTED, MIXED, x -> x.pay(-1, -1, 1));
        two(INDEX, STATE, MIXED, x -> x.pay(2, 6, 1));
        two(INDEX, STATE, MIXED, x -> x.pay(6, 2, 1));
        two(INDEX, STATE, FULL, x -> x.pay(20, 0, 1));
        two(INDEX, STATE, FULL, x -> x.pay(0, -1, 1));
        two(UNSUPPORTED, STATE, MIXED, x -> x.pay(2, 2, 1));
        two(UNSUPPORTED, STATE, FULL, x -> x.pay(0, 0, 1));
        promise = 13;
        accountBeforeWindow(FraudSieve::sentBy);
        promise = 14;
        accountBeforeWindow(FraudSieve::sentByAnew);
        promise = 16;
        two(ELEMENT, ARGUMENT, EMPTY, x -> x.valueOf(0, 'n', 0));
        two(ELEMENT, ARGUMENT, MIXED, x -> x.valueOf(6, 'n', 10081));
        two(ELEMENT, ARGUMENT, MIXED, x -> x.valueOf(-1, 'b', 1));
        two(ELEMENT, ARGUMENT, FULL, x -> x.valueOf(200, 'b', 0));
    }

    private static void accountBeforeWindow(AskWindow call) {
        two(INDEX, ARGUMENT, EMPTY, x -> call.of(x, 0, 0));
        two(INDEX, ARGUMENT, MIXED, x -> call.of(x, 6, 10081));
        two(INDEX, ARGUMENT, MIXED, x -> call.of(x, -1, 0));
        two(INDEX, ARGUMENT, FULL, x -> call.of(x, 20, -1));
    }

    private static void twoOfConditions() {
        promise = 17;
        two(ARGUMENT, STATE, FULL, x -> x.addTest('b', 1, true, 1));
        two(ARGUMENT, STATE, FULL, x -> x.addTest('n', 0, true, 1));
        two(ARGUMENT, STATE, FULL, x -> x.addTest('n', 10081, true, 1));
        two(ARGUMENT, STATE, FULL, x -> x.addTest('n', 1, true, -1));
        two(ARGUMENT, STATE, FULL, x -> x.addTest('n', 1, true, 100000));
        promise = 18;
        twoOfJoin(FraudSieve::addBoth);
        promise = 19;
        twoOfJoin(FraudSieve::addEither);
        promise = 20;
        two(INDEX, UNSUPPORTED, SIZES, x -> x.addNot(15));
        two(INDEX, UNSUPPORTED, SIZES, x -> x.addNot(-1));
        two(INDEX, STATE, FULL, x -> x.addNot(30));
        two(INDEX, STATE, FULL, x -> x.addNot(-1));
        two(UNSUPPORTED, STATE, FULL, x -> x.addNot(15));
        promise = 21;
        two(INDEX, ELEMENT, EMPTY, x -> x.holds(0, 0));
        two(INDEX, ELEMENT, MIXED, x -> x.holds(7, 6));
        two(INDEX, ELEMENT, FULL, x -> x.holds(-1, -1));
        two(INDEX, ELEMENT, FULL, x -> x.holds(30, 200));
    }

    private static void twoOfJoin(Join join) {
        two(INDEX, UNSUPPORTED, SIZES, x -> join.add(x, 14, 15));
        two(INDEX, UNSUPPORTED, SIZES, x -> join.add(x, -1, 14));
        two(INDEX, STATE, FULL, x -> join.add(x, 0, 30));
        two(INDEX, STATE, FULL, x -> join.add(x, 30, 0));
        two(INDEX, STATE, FULL, x -> join.add(x, 15, -1));
        two(UNSUPPORTED, STATE, FULL, x -> join.add(x, 15, 0));
        two(UNSUPPORTED, STATE, FULL, x -> join.add(x, 0, 21));
    }

    private static void twoOfRulesAndReasons() {
        promise = 23;
        two(INDEX, ARGUMENT, EMPTY, x -> x.addRule(0, 0));
        two(INDEX, ARGUMENT, MIXED, x -> x.addRule(7, 101));
        two(INDEX, ARGUMENT, FULL, x -> x.addRule(-1, 0));
        two(INDEX, STATE, FULL, x -> x.addRule(30, 1));
        two(INDEX, STATE, FULL, x -> x.addRule(-1, 1));
        two(ARGUMENT, STATE, FULL, x -> x.addRule(0, 0));
        two(ARGUMENT, STATE, FULL, x -> x.addRule(29, 101));
        promise = 29;
        paymentBeforeReason((x, payment, reason, test) -> x.reasonRule(payment, reason));
        promise = 30;
        paymentBeforeReason((x, payment, reason, test) -> x.reasonTests(payment, reason));
        promise = 31;
        paymentBeforeReason(FraudSieve::reasonFeature);
        promise = 32;
        paymentBeforeReason(FraudSieve::reasonValue);
        promise = 36;
        two(ELEMENT, STATE, EMPTY, x -> x.decide(0, true));
        two(ELEMENT, STATE, MIXED, x -> x.decide(-1, false));
        two(ELEMENT, STATE, FULL, x -> x.decide(200, true));
    }

    private static void paymentBeforeReason(AskReason call) {
        two(ELEMENT, INDEX, EMPTY, x -> call.of(x, 0, 0, 0));
        two(ELEMENT, INDEX, MIXED, x -> call.of(x, -1, -1, -1));
        two(ELEMENT, INDEX, MIXED, x -> call.of(x, 6, 3, 0));
        two(ELEMENT, INDEX, MIXED, x -> call.of(x, 6, 0, 9));
        two(ELEMENT, INDEX, FULL, x -> call.of(x, 200, 12, 8));
    }

    private static void twoOfNetworkAndReview() {
        promise = 38;
        twoOfRing(FraudSieve::ring);
        promise = 39;
        twoOfRing(FraudSieve::ringByTrying);
        promise = 40;
        accountBeforeWindow(FraudSieve::group);
        promise = 44;
        two(INDEX, ARITHMETIC, EMPTY, x -> x.precision(0));
        two(INDEX, ARITHMETIC, MIXED, x -> x.precision(4));
        two(INDEX, ARITHMETIC, FULL, x -> x.precision(-1));
    }

    private static void twoOfRing(AskWindow ring) {
        accountBeforeWindow(ring);
        two(INDEX, ELEMENT, EMPTY, x -> ring.of(x, 0, 1));
        two(INDEX, ELEMENT, MIXED, x -> ring.of(x, 6, 10080));
        two(INDEX, ELEMENT, MIXED, x -> ring.of(x, -1, 10080));
        two(ARGUMENT, ELEMENT, MIXED, x -> ring.of(x, 2, 0));
        two(ARGUMENT, ELEMENT, MIXED, x -> ring.of(x, 2, 10081));
    }
}
