/** Promises 17 to 22: conditions. */
public final class ConditionTest {
    public static void main(String[] args) {
        tests();
        joins();
        sizes();
        limits();
        wrongInputs();
        markedNow();
        Check.finish();
    }

    private static FraudSieve withPayment() {
        FraudSieve x = new FraudSieve();
        x.open('a');
        x.open('b');
        x.pay(0, 1, 100);
        return x;
    }

    private static void tests() {
        FraudSieve x = withPayment();
        Check.same("17 number", 0, () -> x.addTest('s', 1, true, 100));
        Check.same("17 number", 1, () -> x.addTest('s', 1, true, 101));
        Check.same("17 number", 2, () -> x.addTest('s', 1, false, 100));
        Check.same("17 number", 3, () -> x.addTest('s', 1, false, 99));
        Check.same("17 number", 4, () -> x.addTest('q', 10080, true, 99999));
        Check.same("17 number", 5, () -> x.addTest('k', 10080, false, 0));
        Check.same("21 at least, equal", true, () -> x.holds(0, 0));
        Check.same("21 at least, less", false, () -> x.holds(1, 0));
        Check.same("21 at most, equal", true, () -> x.holds(2, 0));
        Check.same("21 at most, more", false, () -> x.holds(3, 0));
        Check.same("21 greatest bound", true, () -> x.holds(4, 0));
        Check.same("21 least bound", true, () -> x.holds(5, 0));
        Check.same("22 a test", 1, () -> x.sizeOf(5));
        x.pay(0, 1, 1);
        Check.same("21 another payment", true, () -> x.holds(1, 1));
        Check.same("21 the first one stays", false, () -> x.holds(1, 0));
    }

    private static void joins() {
        FraudSieve x = withPayment();
        int no = x.addTest('s', 1, true, 101);
        int yes = x.addTest('s', 1, true, 100);
        int[][] pairs = {{no, no}, {no, yes}, {yes, no}, {yes, yes}};
        for (int[] pair : pairs) {
            boolean first = pair[0] == yes;
            boolean second = pair[1] == yes;
            int both = x.addBoth(pair[0], pair[1]);
            int either = x.addEither(pair[0], pair[1]);
            Check.same("18 holds", first && second, () -> x.holds(both, 0));
            Check.same("19 holds", first || second, () -> x.holds(either, 0));
            Check.same("18 size", 3, () -> x.sizeOf(both));
            Check.same("19 size", 3, () -> x.sizeOf(either));
        }
        Check.same("20 number", 10, () -> x.addNot(no));
        Check.same("20 number", 11, () -> x.addNot(yes));
        Check.same("20 number", 12, () -> x.addNot(11));
        Check.same("20 holds", true, () -> x.holds(10, 0));
        Check.same("20 does not hold", false, () -> x.holds(11, 0));
        Check.same("20 twice", true, () -> x.holds(12, 0));
        Check.same("22 not", 2, () -> x.sizeOf(10));
        Check.same("22 not not", 3, () -> x.sizeOf(12));
        Check.same("18 of a join and a not", 13, () -> x.addBoth(4, 12));
        Check.same("22 nested", 7, () -> x.sizeOf(13));
    }

    private static void sizes() {
        FraudSieve x = withPayment();
        x.addTest('n', 1, true, 1);
        x.addBoth(0, 0);
        x.addEither(1, 1);
        x.addBoth(2, 2);
        Check.same("22 greatest", 15, () -> x.sizeOf(3));
        Check.same("21 greatest", true, () -> x.holds(3, 0));
        Check.fails("20 over the greatest", Check.UNSUPPORTED, () -> x.addNot(3));
        Check.fails("18 over the greatest", Check.UNSUPPORTED, () -> x.addBoth(3, 0));
        Check.fails("19 over the greatest", Check.UNSUPPORTED, () -> x.addEither(0, 3));
        Check.fails("18 far over", Check.UNSUPPORTED, () -> x.addBoth(3, 3));
        for (int condition = 0, size = 2; size <= 15; size++) {
            condition = x.addNot(condition);
            int number = condition;
            int due = size;
            Check.same("22 row of nots", due, () -> x.sizeOf(number));
            Check.same("21 row of nots", due % 2 == 1, () -> x.holds(number, 0));
        }
        Check.fails("20 row of nots ends", Check.UNSUPPORTED, () -> x.addNot(17));
        Check.same("18 exactly 15", 18, () -> x.addBoth(15, 0));
        Check.fails("18 exactly 16", Check.UNSUPPORTED, () -> x.addBoth(16, 0));
        Check.fails("19 exactly 16", Check.UNSUPPORTED, () -> x.addEither(15, 4));
        Check.same("22 exactly 15", 15, () -> x.sizeOf(18));
    }

    private static void limits() {
        FraudSieve x = withPayment();
        x.addTest('n', 1, true, 1);
        x.addBoth(0, 0);
        x.addBoth(1, 1);
        x.addBoth(2, 2);
        for (int i = 4; i < 30; i++) {
            int number = i;
            Check.same("17 number", number, () -> x.addTest('m', 1, true, 99999));
        }
        Check.fails("17 full", Check.STATE, () -> x.addTest('n', 1, true, 1));
        Check.fails("18 full", Check.STATE, () -> x.addBoth(0, 29));
        Check.fails("19 full", Check.STATE, () -> x.addEither(0, 29));
        Check.fails("20 full", Check.STATE, () -> x.addNot(29));
        Check.fails("17 bound before full", Check.ARGUMENT, () -> x.addTest('n', 1, true, -1));
        Check.fails("18 size before full", Check.UNSUPPORTED, () -> x.addBoth(3, 0));
        Check.fails("19 size before full", Check.UNSUPPORTED, () -> x.addEither(3, 0));
        Check.fails("20 size before full", Check.UNSUPPORTED, () -> x.addNot(3));
        Check.fails("18 number before full", Check.INDEX, () -> x.addBoth(0, 30));
        Check.same("21 last", false, () -> x.holds(29, 0));
        Check.same("22 last", 1, () -> x.sizeOf(29));
        Check.fails("22 none behind", Check.INDEX, () -> x.sizeOf(30));
    }

    private static void wrongInputs() {
        FraudSieve x = withPayment();
        for (char letter : new char[] {'b', 'x', 'N', ' ', (char) 0, (char) 366, (char) 65535}) {
            Check.fails("17 letter", Check.ARGUMENT, () -> x.addTest(letter, 1, true, 1));
        }
        for (int wrong : new int[] {-1, Integer.MIN_VALUE, Integer.MAX_VALUE, 100000}) {
            Check.fails("17 bound", Check.ARGUMENT, () -> x.addTest('n', 1, true, wrong));
            Check.fails("17 window", Check.ARGUMENT, () -> x.addTest('n', wrong, true, 1));
        }
        Check.fails("17 window", Check.ARGUMENT, () -> x.addTest('n', 0, true, 1));
        Check.fails("17 window", Check.ARGUMENT, () -> x.addTest('n', 10081, true, 1));
        Check.fails("21 none yet", Check.INDEX, () -> x.holds(0, 0));
        Check.fails("20 none yet", Check.INDEX, () -> x.addNot(0));
        Check.same("17 failed ones leave no number", 0, () -> x.addTest('n', 1, true, 0));
        for (int wrong : new int[] {-1, 1, Integer.MIN_VALUE, Integer.MAX_VALUE}) {
            Check.fails("18 first", Check.INDEX, () -> x.addBoth(wrong, 0));
            Check.fails("18 second", Check.INDEX, () -> x.addBoth(0, wrong));
            Check.fails("19 first", Check.INDEX, () -> x.addEither(wrong, 0));
            Check.fails("19 second", Check.INDEX, () -> x.addEither(0, wrong));
            Check.fails("20 other", Check.INDEX, () -> x.addNot(wrong));
            Check.fails("22 condition", Check.INDEX, () -> x.sizeOf(wrong));
            Check.fails("21 condition", Check.INDEX, () -> x.holds(wrong, 0));
            Check.fails("21 condition before payment", Check.INDEX, () -> x.holds(wrong, 5));
            Check.fails("21 payment", Check.ELEMENT, () -> x.holds(0, wrong));
        }
        Check.same("17 next", 1, () -> x.addTest('a', 10080, false, 99999));
    }

    private static void markedNow() {
        FraudSieve x = withPayment();
        int near = x.addTest('d', 1, false, 1);
        Check.same("21 none marked", false, () -> x.holds(near, 0));
        x.setMarked(0, true);
        Check.same("21 payer marked now", true, () -> x.holds(near, 0));
        x.setMarked(0, false);
        Check.same("21 no more", false, () -> x.holds(near, 0));
    }
}
