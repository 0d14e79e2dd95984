import java.util.NoSuchElementException;

/** A finder of fraud in payments. */
public final class FraudSieve {
    private static final int MOST_ACCOUNTS = 20;
    private static final int MOST_PAYMENTS = 200;
    private static final int MOST_CONDITIONS = 30;
    private static final int MOST_RULES = 12;
    private static final int GREATEST_SIZE = 15;
    private static final int LONGEST_PASS = 1440;
    private static final int LONGEST_WINDOW = 10080;
    private static final int GREATEST_AMOUNT = 9999;
    private static final int GREATEST_BOUND = 99999;
    private static final int GREATEST_WEIGHT = 100;
    private static final int GREATEST_THRESHOLD = 1201;
    private static final int FIRST_THRESHOLD = 50;
    private static final int NONE = -1;

    private static final char NO_ALERT = '-';
    private static final char OPEN = 'o';
    private static final char FRAUD = 'f';
    private static final char CLEARED = 'c';

    private final Bank bank = new Bank();
    private final Conditions conditions = new Conditions();
    private final Rules rules = new Rules();
    private final Cases cases = new Cases();
    private int threshold = FIRST_THRESHOLD;

    public FraudSieve() {
    }

    public int open(char country) throws IllegalArgumentException, IllegalStateException {
        if (country < 'a' || country > 'd') {
            throw new IllegalArgumentException("no such country");
        }
        if (bank.accounts.count >= MOST_ACCOUNTS) {
            throw new IllegalStateException("no more accounts");
        }
        return bank.accounts.append(country, bank.now);
    }

    public boolean setMarked(int account, boolean isMarked) throws IndexOutOfBoundsException {
        requireAccount(account);
        boolean wasMarked = hasBit(bank.accounts.marked, account);
        bank.accounts.marked = withBit(bank.accounts.marked, account, isMarked);
        return wasMarked;
    }

    public boolean setBlocked(int account, boolean isBlocked) throws IndexOutOfBoundsException {
        requireAccount(account);
        boolean wasBlocked = hasBit(bank.accounts.blocked, account);
        bank.accounts.blocked = withBit(bank.accounts.blocked, account, isBlocked);
        return wasBlocked;
    }

    public boolean isMarked(int account) throws IndexOutOfBoundsException {
        requireAccount(account);
        return hasBit(bank.accounts.marked, account);
    }

    public char countryOf(int account) throws IndexOutOfBoundsException {
        requireAccount(account);
        return bank.accounts.countries[account];
    }

    public int accounts() {
        return bank.accounts.count;
    }

    public int pass(int minutes) throws IllegalArgumentException {
        if (minutes < 1 || minutes > LONGEST_PASS) {
            throw new IllegalArgumentException("minutes out of range");
        }
        bank.advance(minutes);
        return bank.now;
    }

    public int time() {
        return bank.now;
    }

    public int pay(int payer, int receiver, int amount) throws IndexOutOfBoundsException,
            IllegalArgumentException, UnsupportedOperationException, IllegalStateException {
        requireAccount(payer);
        requireAccount(receiver);
        if (amount < 1 || amount > GREATEST_AMOUNT) {
            throw new IllegalArgumentException("amount out of range");
        }
        if (payer == receiver) {
            throw new UnsupportedOperationException("payer and receiver are the same");
        }
        int blocked = bank.accounts.blocked;
        if (hasBit(blocked, payer) || hasBit(blocked, receiver)) {
            throw new IllegalStateException("account is blocked");
        }
        if (bank.ledger.count >= MOST_PAYMENTS) {
            throw new IllegalStateException("no more payments");
        }
        int payment = bank.ledger.append(payer, receiver, amount, bank.now);
        conditions.judge(bank, payment, conditions.count);
        int reasonRules = rules.findReasons(conditions);
        int weight = rules.weightOf(reasonRules);
        cases.keep(payment, reasonRules, weight, conditions);
        if (weight >= threshold) {
            cases.raise(payment);
        }
        return payment;
    }

    public int payments() {
        return bank.ledger.count;
    }

    public int minuteOf(int payment) throws NoSuchElementException {
        requirePayment(payment);
        return bank.ledger.minutes[payment];
    }

    public int sentBy(int account, int window)
            throws IndexOutOfBoundsException, IllegalArgumentException {
        requireAccount(account);
        requireWindow(window);
        return bank.keptSum(account, window);
    }

    public int sentByAnew(int account, int window)
            throws IndexOutOfBoundsException, IllegalArgumentException {
        requireAccount(account);
        requireWindow(window);
        return bank.sumAnew(account, window);
    }

    public int kept() {
        return bank.ledger.count - bank.firstKept;
    }

    public int valueOf(int payment, char feature, int window)
            throws NoSuchElementException, IllegalArgumentException {
        requirePayment(payment);
        requireFeature(feature);
        requireWindow(window);
        return bank.featureValue(payment, feature, window);
    }

    public int addTest(char feature, int window, boolean isAtLeast, int bound)
            throws IllegalArgumentException, IllegalStateException {
        requireFeature(feature);
        requireWindow(window);
        if (bound < 0 || bound > GREATEST_BOUND) {
            throw new IllegalArgumentException("bound out of range");
        }
        requireRoomForCondition();
        return conditions.appendTest(feature, window, isAtLeast, bound);
    }

    public int addBoth(int first, int second) throws IndexOutOfBoundsException,
            UnsupportedOperationException, IllegalStateException {
        requireJoinable(first, second);
        return conditions.appendJoin(Conditions.BOTH, first, second);
    }

    public int addEither(int first, int second) throws IndexOutOfBoundsException,
            UnsupportedOperationException, IllegalStateException {
        requireJoinable(first, second);
        return conditions.appendJoin(Conditions.EITHER, first, second);
    }

    public int addNot(int other) throws IndexOutOfBoundsException, UnsupportedOperationException,
            IllegalStateException {
        requireCondition(other);
        requireSize(1 + conditions.sizes[other]);
        requireRoomForCondition();
        return conditions.appendNot(other);
    }

    public boolean holds(int condition, int payment)
            throws IndexOutOfBoundsException, NoSuchElementException {
        requireCondition(condition);
        requirePayment(payment);
        conditions.judge(bank, payment, condition + 1);
        return conditions.holding[condition];
    }

    public int sizeOf(int condition) throws IndexOutOfBoundsException {
        requireCondition(condition);
        return conditions.sizes[condition];
    }

    public int addRule(int condition, int weight) throws IndexOutOfBoundsException,
            IllegalArgumentException, IllegalStateException {
        requireCondition(condition);
        if (weight < 1 || weight > GREATEST_WEIGHT) {
            throw new IllegalArgumentException("weight out of range");
        }
        if (rules.count >= MOST_RULES) {
            throw new IllegalStateException("no more rules");
        }
        return rules.append(condition, weight);
    }

    public boolean setRule(int rule, boolean isOn) throws IndexOutOfBoundsException {
        requireRule(rule);
        boolean wasOn = hasBit(rules.on, rule);
        rules.on = withBit(rules.on, rule, isOn);
        return wasOn;
    }

    public int setThreshold(int threshold) throws IllegalArgumentException {
        requireThreshold(threshold);
        int before = this.threshold;
        this.threshold = threshold;
        return before;
    }

    public int score(int payment) throws NoSuchElementException {
        requirePayment(payment);
        return cases.scores[payment];
    }

    public int scoreNow(int payment) throws NoSuchElementException {
        requirePayment(payment);
        conditions.judge(bank, payment, conditions.count);
        return rules.weightOf(rules.findReasons(conditions));
    }

    public int reasons(int payment) throws NoSuchElementException {
        requirePayment(payment);
        return Integer.bitCount(cases.reasonRules[payment]);
    }

    public int reasonRule(int payment, int reason)
            throws NoSuchElementException, IndexOutOfBoundsException {
        requirePayment(payment);
        return ruleOfReason(payment, reason);
    }

    public int reasonTests(int payment, int reason)
            throws NoSuchElementException, IndexOutOfBoundsException {
        requirePayment(payment);
        int condition = rules.conditions[ruleOfReason(payment, reason)];
        return conditions.countTests(condition, cases.heldConditions[payment]);
    }

    public char reasonFeature(int payment, int reason, int test)
            throws NoSuchElementException, IndexOutOfBoundsException {
        requirePayment(payment);
        return conditions.features[testOfReason(payment, reason, test)];
    }

    public int reasonValue(int payment, int reason, int test)
            throws NoSuchElementException, IndexOutOfBoundsException {
        requirePayment(payment);
        return cases.foundValue(payment, testOfReason(payment, reason, test));
    }

    public int nextAlert() throws NoSuchElementException {
        int payment = cases.firstOpen(bank.ledger.count);
        if (payment == NONE) {
            throw new NoSuchElementException("no open alert");
        }
        return payment;
    }

    public int alertAt(int rank) throws IndexOutOfBoundsException {
        int payment = cases.openAtRank(rank, bank.ledger.count);
        if (payment == NONE) {
            throw new IndexOutOfBoundsException("no such rank");
        }
        return payment;
    }

    public int openAlerts() {
        return cases.openCount;
    }

    public int decide(int payment, boolean isFraud)
            throws NoSuchElementException, IllegalStateException {
        requirePayment(payment);
        if (cases.alerts[payment] != OPEN) {
            throw new IllegalStateException("no open alert of this payment");
        }
        cases.close(payment, isFraud ? FRAUD : CLEARED);
        if (isFraud) {
            int receiver = bank.ledger.receivers[payment];
            bank.accounts.marked = withBit(bank.accounts.marked, receiver, true);
        }
        return cases.openCount;
    }

    public char alertOf(int payment) throws NoSuchElementException {
        requirePayment(payment);
        return cases.alerts[payment];
    }

    public int ring(int account, int window) throws IndexOutOfBoundsException,
            IllegalArgumentException, NoSuchElementException {
        requireAccount(account);
        requireWindow(window);
        return requireWay(bank.networkNow(window).shortestWay(account, account));
    }

    public int ringByTrying(int account, int window) throws IndexOutOfBoundsException,
            IllegalArgumentException, NoSuchElementException {
        requireAccount(account);
        requireWindow(window);
        return requireWay(bank.networkNow(window).shortestWayByTrying(account, account));
    }

    public int group(int account, int window)
            throws IndexOutOfBoundsException, IllegalArgumentException {
        requireAccount(account);
        requireWindow(window);
        return bank.networkNow(window).groupSize(account);
    }

    public int caught(int threshold) throws IllegalArgumentException {
        requireThreshold(threshold);
        return countDecided(FRAUD, threshold);
    }

    public int bestThreshold(int most) throws IllegalArgumentException {
        requireMost(most);
        int low = 1;
        int high = GREATEST_THRESHOLD;
        for (int step = 0; step < GREATEST_THRESHOLD && low < high; step++) {
            int middle = (low + high) / 2;
            if (countDecided(CLEARED, middle) <= most) {
                high = middle;
            } else {
                low = middle + 1;
            }
        }
        return low;
    }

    public int bestThresholdByTrying(int most) throws IllegalArgumentException {
        requireMost(most);
        int tried = 1;
        while (tried < GREATEST_THRESHOLD && countDecided(CLEARED, tried) > most) {
            tried++;
        }
        return tried;
    }

    public float precision(int rule) throws IndexOutOfBoundsException, ArithmeticException {
        requireRule(rule);
        int fraud = cases.countWithReason(FRAUD, rule, bank.ledger.count);
        int decided = fraud + cases.countWithReason(CLEARED, rule, bank.ledger.count);
        if (decided == 0) {
            throw new ArithmeticException("no decided payment has this rule");
        }
        return (float) fraud / (float) decided;
    }

    public double meanScore() throws ArithmeticException {
        int count = bank.ledger.count;
        if (count == 0) {
            throw new ArithmeticException("no payments");
        }
        int sum = 0;
        for (int payment = 0; payment < count; payment++) {
            sum += cases.scores[payment];
        }
        return (double) sum / (double) count;
    }

    public long turnover() {
        long sum = 0;
        for (int payment = 0; payment < bank.ledger.count; payment++) {
            sum += bank.ledger.amounts[payment];
        }
        return sum;
    }

    public boolean isSound() {
        return areScoresSound() && areSumsSound();
    }

    private boolean areScoresSound() {
        for (int payment = 0; payment < bank.ledger.count; payment++) {
            if (cases.scores[payment] != rules.weightOf(cases.reasonRules[payment])) {
                return false;
            }
        }
        return true;
    }

    private boolean areSumsSound() {
        for (int account = 0; account < bank.accounts.count; account++) {
            int keptSum = bank.keptSum(account, LONGEST_WINDOW);
            if (keptSum != bank.sumAnew(account, LONGEST_WINDOW)) {
                return false;
            }
        }
        return true;
    }

    private int countDecided(char decision, int least) {
        int decided = 0;
        for (int payment = 0; payment < bank.ledger.count; payment++) {
            if (cases.alerts[payment] == decision && cases.scores[payment] >= least) {
                decided++;
            }
        }
        return decided;
    }

    private int ruleOfReason(int payment, int reason) {
        int rule = rules.ruleAtRank(cases.reasonRules[payment], reason);
        if (rule == NONE) {
            throw new IndexOutOfBoundsException("no such reason");
        }
        return rule;
    }

    private int testOfReason(int payment, int reason, int rank) {
        int condition = rules.conditions[ruleOfReason(payment, reason)];
        int test = conditions.testAtRank(condition, cases.heldConditions[payment], rank);
        if (test == NONE) {
            throw new IndexOutOfBoundsException("no such test");
        }
        return test;
    }

    private void requireAccount(int account) {
        if (account < 0 || account >= bank.accounts.count) {
            throw new IndexOutOfBoundsException("no such account");
        }
    }

    private void requirePayment(int payment) {
        if (payment < 0 || payment >= bank.ledger.count) {
            throw new NoSuchElementException("no such payment");
        }
    }

    private void requireCondition(int condition) {
        if (condition < 0 || condition >= conditions.count) {
            throw new IndexOutOfBoundsException("no such condition");
        }
    }

    private void requireRule(int rule) {
        if (rule < 0 || rule >= rules.count) {
            throw new IndexOutOfBoundsException("no such rule");
        }
    }

    private void requireJoinable(int first, int second) {
        requireCondition(first);
        requireCondition(second);
        requireSize(1 + conditions.sizes[first] + conditions.sizes[second]);
        requireRoomForCondition();
    }

    private void requireRoomForCondition() {
        if (conditions.count >= MOST_CONDITIONS) {
            throw new IllegalStateException("no more conditions");
        }
    }

    private static void requireSize(int size) {
        if (size > GREATEST_SIZE) {
            throw new UnsupportedOperationException("condition too large");
        }
    }

    private static void requireFeature(char feature) {
        if (!Bank.hasFeature(feature)) {
            throw new IllegalArgumentException("no such feature");
        }
    }

    private static void requireWindow(int window) {
        if (window < 1 || window > LONGEST_WINDOW) {
            throw new IllegalArgumentException("window out of range");
        }
    }

    private static void requireThreshold(int threshold) {
        if (threshold < 1 || threshold > GREATEST_THRESHOLD) {
            throw new IllegalArgumentException("threshold out of range");
        }
    }

    private static void requireMost(int most) {
        if (most < 0 || most > MOST_PAYMENTS) {
            throw new IllegalArgumentException("number out of range");
        }
    }

    private static int requireWay(int length) {
        if (length == NONE) {
            throw new NoSuchElementException("no such way");
        }
        return length;
    }

    private static boolean hasBit(int bits, int bit) {
        return (bits >> bit & 1) != 0;
    }

    private static int withBit(int bits, int bit, boolean isSet) {
        return isSet ? bits | 1 << bit : bits & ~(1 << bit);
    }

    private static final class Accounts {
        private final char[] countries = new char[MOST_ACCOUNTS];
        private final int[] openings = new int[MOST_ACCOUNTS];
        private int count;
        // Sets of accounts are ints with a bit for each one: a search through the network
        // then makes no objects, which a run of calls has little room for.
        private int marked;
        private int blocked;

        int append(char country, int minute) {
            countries[count] = country;
            openings[count] = minute;
            return count++;
        }
    }

    private static final class Ledger {
        private final int[] payers = new int[MOST_PAYMENTS];
        private final int[] receivers = new int[MOST_PAYMENTS];
        private final int[] amounts = new int[MOST_PAYMENTS];
        private final int[] minutes = new int[MOST_PAYMENTS];
        private int count;

        int append(int payer, int receiver, int amount, int minute) {
            payers[count] = payer;
            receivers[count] = receiver;
            amounts[count] = amount;
            minutes[count] = minute;
            return count++;
        }

        // Minutes never fall from one payment to the next, so a window holds the last ones.
        int firstAfter(int minute, int from) {
            int payment = from;
            while (payment < count && minutes[payment] <= minute) {
                payment++;
            }
            return payment;
        }

        int sumOf(int[] parties, int account, int from, int end) {
            int sum = 0;
            for (int payment = from; payment < end; payment++) {
                if (parties[payment] == account) {
                    sum += amounts[payment];
                }
            }
            return sum;
        }

        int countSent(int account, int from, int end, int least, int greatest) {
            int sent = 0;
            for (int payment = from; payment < end; payment++) {
                int amount = amounts[payment];
                if (payers[payment] == account && amount >= least && amount <= greatest) {
                    sent++;
                }
            }
            return sent;
        }

        int greatestSent(int account, int from, int end) {
            int greatest = 0;
            for (int payment = from; payment < end; payment++) {
                if (payers[payment] == account && amounts[payment] > greatest) {
                    greatest = amounts[payment];
                }
            }
            return greatest;
        }

        int receiversFrom(int account, int from, int end) {
            int found = 0;
            for (int payment = from; payment < end; payment++) {
                if (payers[payment] == account) {
                    found = withBit(found, receivers[payment], true);
                }
            }
            return found;
        }

        boolean isFirstOfPair(int payment) {
            for (int earlier = 0; earlier < payment; earlier++) {
                if (payers[earlier] == payers[payment]
                        && receivers[earlier] == receivers[payment]) {
                    return false;
                }
            }
            return true;
        }

        int minutesSinceLast(int payment, int ifNone) {
            for (int earlier = payment - 1; earlier >= 0; earlier--) {
                if (payers[earlier] == payers[payment]) {
                    return minutes[payment] - minutes[earlier];
                }
            }
            return ifNone;
        }
    }

    private static final class Network {
        private final int[] paidAccounts = new int[MOST_ACCOUNTS];
        private final int[] linkedAccounts = new int[MOST_ACCOUNTS];

        void load(Ledger ledger, int from, int end) {
            for (int account = 0; account < MOST_ACCOUNTS; account++) {
                paidAccounts[account] = 0;
                linkedAccounts[account] = 0;
            }
            for (int payment = from; payment < end; payment++) {
                int payer = ledger.payers[payment];
                int receiver = ledger.receivers[payment];
                paidAccounts[payer] = withBit(paidAccounts[payer], receiver, true);
                linkedAccounts[payer] = withBit(linkedAccounts[payer], receiver, true);
                linkedAccounts[receiver] = withBit(linkedAccounts[receiver], payer, true);
            }
        }

        int shortestWay(int from, int to) {
            // The start itself is not among the reached ones: a ring must be able to return to it.
            int reached = 0;
            int front = 1 << from;
            for (int length = 1; length <= MOST_ACCOUNTS; length++) {
                front = step(paidAccounts, front) & ~reached;
                if (hasBit(front, to)) {
                    return length;
                }
                reached |= front;
            }
            return NONE;
        }

        // A shortest way passes no account twice, so none is longer than there are accounts.
        int shortestWayByTrying(int from, int to) {
            int ends = 1 << from;
            for (int length = 1; length <= MOST_ACCOUNTS; length++) {
                ends = step(paidAccounts, ends);
                if (hasBit(ends, to)) {
                    return length;
                }
            }
            return NONE;
        }

        int groupSize(int account) {
            int members = 1 << account;
            for (int links = 1; links < MOST_ACCOUNTS; links++) {
                members |= step(linkedAccounts, members);
            }
            return Integer.bitCount(members);
        }

        int leastLinks(int from, int goals, int ifNone) {
            int reached = 1 << from;
            for (int links = 0; links < MOST_ACCOUNTS; links++) {
                if ((reached & goals) != 0) {
                    return links;
                }
                reached |= step(linkedAccounts, reached);
            }
            return ifNone;
        }

        private static int step(int[] neighbours, int accounts) {
            int next = 0;
            for (int account = 0; account < neighbours.length; account++) {
                if (hasBit(accounts, account)) {
                    next |= neighbours[account];
                }
            }
            return next;
        }
    }

    private static final class Bank {
        private static final char[] FEATURES = {
            'n', 's', 'm', 'l', 'r', 'c', 'i', 'g', 'k', 'd', 'f', 'q', 'a'
        };
        private static final int LEAST_LOW = 900;
        private static final int GREATEST_LOW = 999;
        private static final int NO_MARKED_ACCOUNT = 99;
        private static final int NO_EARLIER_PAYMENT = 99999;

        private final Accounts accounts = new Accounts();
        private final Ledger ledger = new Ledger();
        private final Network network = new Network();
        private int now;
        private int firstKept;

        static boolean hasFeature(char letter) {
            for (char feature : FEATURES) {
                if (feature == letter) {
                    return true;
                }
            }
            return false;
        }

        void advance(int minutes) {
            now += minutes;
            firstKept = ledger.firstAfter(now - LONGEST_WINDOW, firstKept);
        }

        int keptSum(int account, int window) {
            int from = ledger.firstAfter(now - window, firstKept);
            return ledger.sumOf(ledger.payers, account, from, ledger.count);
        }

        int sumAnew(int account, int window) {
            int sum = 0;
            for (int payment = 0; payment < ledger.count; payment++) {
                if (ledger.payers[payment] == account
                        && ledger.minutes[payment] > now - window) {
                    sum += ledger.amounts[payment];
                }
            }
            return sum;
        }

        Network networkNow(int window) {
            return networkOf(ledger.firstAfter(now - window, 0), ledger.count);
        }

        private Network networkOf(int from, int end) {
            network.load(ledger, from, end);
            return network;
        }

        int featureValue(int payment, char feature, int window) {
            int payer = ledger.payers[payment];
            int receiver = ledger.receivers[payment];
            int end = payment + 1;
            int from = ledger.firstAfter(ledger.minutes[payment] - window, 0);
            switch (feature) {
                case 'n':
                    return ledger.countSent(payer, from, end, 1, GREATEST_AMOUNT);
                case 's':
                    return ledger.sumOf(ledger.payers, payer, from, end);
                case 'm':
                    return ledger.greatestSent(payer, from, end);
                case 'l':
                    return ledger.countSent(payer, from, end, LEAST_LOW, GREATEST_LOW);
                case 'r':
                    return Integer.bitCount(ledger.receiversFrom(payer, from, end));
                case 'c':
                    return countCountries(ledger.receiversFrom(payer, from, end));
                case 'i':
                    return ledger.sumOf(ledger.receivers, payer, from, end);
                case 'f':
                    return ledger.isFirstOfPair(payment) ? 1 : 0;
                case 'q':
                    return ledger.minutesSinceLast(payment, NO_EARLIER_PAYMENT);
                case 'a':
                    return ledger.minutes[payment] - accounts.openings[payer];
                case 'g':
                    return networkOf(from, end).groupSize(payer);
                case 'd':
                    return networkOf(from, end)
                            .leastLinks(receiver, accounts.marked, NO_MARKED_ACCOUNT);
                default: // Only 'k' is left: the callers let no other letter through.
                    int way = networkOf(from, end).shortestWay(receiver, payer);
                    return way == NONE ? 0 : 1 + way;
            }
        }

        private int countCountries(int members) {
            int found = 0;
            for (int account = 0; account < accounts.count; account++) {
                if (hasBit(members, account)) {
                    found = withBit(found, accounts.countries[account] - 'a', true);
                }
            }
            return Integer.bitCount(found);
        }
    }

    private static final class Conditions {
        private static final int TEST = 0;
        private static final int BOTH = 1;
        private static final int EITHER = 2;
        private static final int NOT = 3;
        // A condition of the greatest size joins 8 tests by 7 joins.
        private static final int MOST_TESTS = (GREATEST_SIZE + 1) / 2;

        private final int[] kinds = new int[MOST_CONDITIONS];
        private final int[] sizes = new int[MOST_CONDITIONS];
        private final char[] features = new char[MOST_CONDITIONS];
        private final int[] windows = new int[MOST_CONDITIONS];
        private final boolean[] atLeast = new boolean[MOST_CONDITIONS];
        private final int[] bounds = new int[MOST_CONDITIONS];
        private final int[] firsts = new int[MOST_CONDITIONS];
        private final int[] seconds = new int[MOST_CONDITIONS];
        private final int[] testCounts = new int[MOST_CONDITIONS];
        private final int[] tests = new int[MOST_CONDITIONS * MOST_TESTS];
        private final boolean[] holding = new boolean[MOST_CONDITIONS];
        private final int[] found = new int[MOST_CONDITIONS];
        private int count;

        int appendTest(char feature, int window, boolean isAtLeast, int bound) {
            features[count] = feature;
            windows[count] = window;
            atLeast[count] = isAtLeast;
            bounds[count] = bound;
            keepTest(count);
            return finish(TEST, 1);
        }

        int appendJoin(int kind, int first, int second) {
            firsts[count] = first;
            seconds[count] = second;
            keepTestsOf(first);
            keepTestsOf(second);
            return finish(kind, 1 + sizes[first] + sizes[second]);
        }

        int appendNot(int other) {
            firsts[count] = other;
            return finish(NOT, 1 + sizes[other]);
        }

        private int finish(int kind, int size) {
            kinds[count] = kind;
            sizes[count] = size;
            return count++;
        }

        private void keepTest(int test) {
            if (testCounts[count] < MOST_TESTS) {
                tests[count * MOST_TESTS + testCounts[count]] = test;
                testCounts[count]++;
            }
        }

        private void keepTestsOf(int condition) {
            for (int index = 0; index < testCounts[condition]; index++) {
                keepTest(tests[condition * MOST_TESTS + index]);
            }
        }

        // A condition is made of earlier ones alone, so that one pass in the order of the
        // numbers finds all of them without recursion.
        void judge(Bank bank, int payment, int end) {
            for (int condition = 0; condition < end; condition++) {
                boolean first = holding[firsts[condition]];
                boolean second = holding[seconds[condition]];
                switch (kinds[condition]) {
                    case BOTH:
                        holding[condition] = first && second;
                        break;
                    case EITHER:
                        holding[condition] = first || second;
                        break;
                    case NOT:
                        holding[condition] = !first;
                        break;
                    default:
                        holding[condition] = judgeTest(bank, payment, condition);
                        break;
                }
            }
        }

        private boolean judgeTest(Bank bank, int payment, int test) {
            int value = bank.featureValue(payment, features[test], windows[test]);
            found[test] = value;
            return atLeast[test] ? value >= bounds[test] : value <= bounds[test];
        }

        int countTests(int condition, int among) {
            int counted = 0;
            for (int index = 0; index < testCounts[condition]; index++) {
                if (hasBit(among, tests[condition * MOST_TESTS + index])) {
                    counted++;
                }
            }
            return counted;
        }

        int testAtRank(int condition, int among, int rank) {
            int ahead = 0;
            for (int index = 0; index < testCounts[condition]; index++) {
                int test = tests[condition * MOST_TESTS + index];
                if (hasBit(among, test)) {
                    if (ahead == rank) {
                        return test;
                    }
                    ahead++;
                }
            }
            return NONE;
        }
    }

    private static final class Rules {
        private final int[] conditions = new int[MOST_RULES];
        private final int[] weights = new int[MOST_RULES];
        private int on;
        private int count;

        int append(int condition, int weight) {
            conditions[count] = condition;
            weights[count] = weight;
            on = withBit(on, count, true);
            return count++;
        }

        int findReasons(Conditions judged) {
            int reasonRules = 0;
            for (int rule = 0; rule < count; rule++) {
                if (hasBit(on, rule) && judged.holding[conditions[rule]]) {
                    reasonRules = withBit(reasonRules, rule, true);
                }
            }
            return reasonRules;
        }

        int ruleAtRank(int reasonRules, int rank) {
            int ahead = 0;
            for (int rule = 0; rule < count; rule++) {
                if (hasBit(reasonRules, rule)) {
                    if (ahead == rank) {
                        return rule;
                    }
                    ahead++;
                }
            }
            return NONE;
        }

        int weightOf(int reasonRules) {
            int sum = 0;
            for (int rule = 0; rule < count; rule++) {
                if (hasBit(reasonRules, rule)) {
                    sum += weights[rule];
                }
            }
            return sum;
        }
    }

    // Conditions and the weights of rules never change, so that a payment's reasons stay as
    // they were if only the rules, the tests that held and the values are kept with it.
    private static final class Cases {
        private final int[] scores = new int[MOST_PAYMENTS];
        private final char[] alerts = new char[MOST_PAYMENTS];
        private final int[] reasonRules = new int[MOST_PAYMENTS];
        private final int[] heldConditions = new int[MOST_PAYMENTS];
        private final int[] values = new int[MOST_PAYMENTS * MOST_CONDITIONS];
        private int openCount;

        void keep(int payment, int rulesOfReasons, int weight, Conditions judged) {
            int held = 0;
            for (int condition = 0; condition < judged.count; condition++) {
                held = withBit(held, condition, judged.holding[condition]);
                values[payment * MOST_CONDITIONS + condition] = judged.found[condition];
            }
            heldConditions[payment] = held;
            reasonRules[payment] = rulesOfReasons;
            scores[payment] = weight;
            alerts[payment] = NO_ALERT;
        }

        int foundValue(int payment, int test) {
            return values[payment * MOST_CONDITIONS + test];
        }

        void raise(int payment) {
            alerts[payment] = OPEN;
            openCount++;
        }

        void close(int payment, char decision) {
            alerts[payment] = decision;
            openCount--;
        }

        int firstOpen(int end) {
            int first = NONE;
            for (int payment = 0; payment < end; payment++) {
                if (alerts[payment] == OPEN && (first == NONE || isAhead(payment, first))) {
                    first = payment;
                }
            }
            return first;
        }

        int openAtRank(int rank, int end) {
            for (int payment = 0; payment < end; payment++) {
                if (alerts[payment] == OPEN && countAhead(payment, end) == rank) {
                    return payment;
                }
            }
            return NONE;
        }

        private int countAhead(int payment, int end) {
            int ahead = 0;
            for (int other = 0; other < end; other++) {
                if (alerts[other] == OPEN && isAhead(other, payment)) {
                    ahead++;
                }
            }
            return ahead;
        }

        private boolean isAhead(int payment, int other) {
            return scores[payment] > scores[other]
                    || scores[payment] == scores[other] && payment < other;
        }

        int countWithReason(char decision, int rule, int end) {
            int counted = 0;
            for (int payment = 0; payment < end; payment++) {
                if (alerts[payment] == decision && hasBit(reasonRules[payment], rule)) {
                    counted++;
                }
            }
            return counted;
        }
    }
}
