import java.util.NoSuchElementException;

/**
 * A payment ledger with double entry: accounts in several currencies, transfers, holds that expire,
 * reversals, a batch that is settled by net amounts, and keys, by which a call that is made twice is
 * done once.
 */
public final class LedgerStream {
    private static final int MAX_ACCOUNTS = 10;
    private static final int MAX_TRANSACTIONS = 150;
    private static final int MAX_HOLDS = 30;
    private static final int MAX_PAYMENTS = 12;
    // Each call that is remembered made a transaction or a hold, so there are never more of them.
    private static final int MAX_CALLS = MAX_TRANSACTIONS + MAX_HOLDS;

    private static final int CURRENCIES = 4;
    private static final int MAX_LIMIT = 1000000;
    private static final int MAX_AMOUNT = 1000000;
    private static final int MIN_RATE = 100;
    private static final int MAX_RATE = 1000;
    private static final int MAX_KEY = 999;
    private static final int MAX_HOLD_DAYS = 20;
    private static final int MAX_KEY_AGE = 2;

    // The kinds also tell the methods with a key apart: each kind is made by one method alone.
    private static final char DEPOSIT = 'd';
    private static final char WITHDRAWAL = 'w';
    private static final char TRANSFER = 't';
    private static final char CAPTURE = 'c';
    private static final char BATCH = 'b';
    private static final char REVERSAL = 'r';
    // No kind, but the method that makes a hold.
    private static final char HOLD = 'h';

    private static final char ACTIVE = 'a';
    private static final char CAPTURED = 'c';
    private static final char RELEASED = 'r';
    private static final char EXPIRED = 'x';

    // Stands where a transaction has the outside instead of an account.
    private static final int OUTSIDE = -1;
    // Stands where a transaction has not been reversed.
    private static final int UNREVERSED = -1;
    // Stands where a method with a key has fewer arguments than the one that has most.
    private static final int NO_ARGUMENT = 0;

    private final Books books = new Books();
    private final Journal journal = new Journal();
    private final Holds holds = new Holds();
    private final Batch batch = new Batch();
    private final Memory memory = new Memory();
    // What would be available to each account, while a cut is looked for; kept to be used again.
    private final Row sums = new Row(MAX_ACCOUNTS);
    private int today = 0;

    public LedgerStream() {
    }

    // ---- accounts and rates

    public int openAccount(int currency, int limit) throws IllegalArgumentException, IllegalStateException {
        requireCurrency(currency);
        requireLimit(limit);
        if (books.size >= MAX_ACCOUNTS) {
            throw new IllegalStateException("there is no room for another account");
        }
        return books.open(currency, limit);
    }

    public int setLimit(int account, int limit)
            throws IndexOutOfBoundsException, IllegalArgumentException, UnsupportedOperationException {
        requireAccount(account);
        requireLimit(limit);
        int before = books.limits.intAt(account);
        if (spendable(account) - before + limit < 0) {
            throw new UnsupportedOperationException("the available amount would be negative");
        }
        books.limits.put(account, limit);
        return before;
    }

    public int setRate(int currency, int rate) throws IllegalArgumentException {
        requireCurrency(currency);
        if (rate < MIN_RATE || rate > MAX_RATE) {
            throw new IllegalArgumentException("the rate is out of range");
        }
        int before = books.rates.intAt(currency);
        books.rates.put(currency, rate);
        return before;
    }

    // ---- money

    public int deposit(int key, int account, int amount)
            throws IllegalArgumentException, IndexOutOfBoundsException, IllegalStateException {
        Call call = new Call(DEPOSIT, key, account, amount, NO_ARGUMENT, NO_ARGUMENT);
        if (memory.hasCallLike(call, today)) {
            return memory.answerTo(key, today);
        }
        requireNewKey(key);
        requireAmount(amount);
        requireAccount(account);
        requireRoomInJournal();
        return memory.keep(call, today, post(DEPOSIT, OUTSIDE, account, amount, amount));
    }

    public int withdraw(int key, int account, int amount)
            throws IllegalArgumentException, IndexOutOfBoundsException, UnsupportedOperationException,
            IllegalStateException {
        Call call = new Call(WITHDRAWAL, key, account, amount, NO_ARGUMENT, NO_ARGUMENT);
        if (memory.hasCallLike(call, today)) {
            return memory.answerTo(key, today);
        }
        requireNewKey(key);
        requireAmount(amount);
        requireAccount(account);
        requireSpendable(account, amount);
        requireRoomInJournal();
        return memory.keep(call, today, post(WITHDRAWAL, account, OUTSIDE, amount, amount));
    }

    public int transfer(int key, int payer, int payee, int amount)
            throws IllegalArgumentException, IndexOutOfBoundsException, UnsupportedOperationException,
            IllegalStateException {
        Call call = new Call(TRANSFER, key, payer, payee, amount, NO_ARGUMENT);
        if (memory.hasCallLike(call, today)) {
            return memory.answerTo(key, today);
        }
        requireNewKey(key);
        requireAmount(amount);
        requireTwoAccounts(payer, payee);
        requireSpendable(payer, amount);
        int received = books.receivedFor(payer, payee, amount);
        requireSomethingReceived(received);
        requireRoomInJournal();
        return memory.keep(call, today, post(TRANSFER, payer, payee, amount, received));
    }

    public int hold(int key, int payer, int payee, int amount, int days)
            throws IllegalArgumentException, IndexOutOfBoundsException, UnsupportedOperationException,
            IllegalStateException {
        Call call = new Call(HOLD, key, payer, payee, amount, days);
        if (memory.hasCallLike(call, today)) {
            return memory.answerTo(key, today);
        }
        requireNewKey(key);
        requireAmount(amount);
        if (days < 0 || days > MAX_HOLD_DAYS) {
            throw new IllegalArgumentException("the days are out of range");
        }
        requireTwoAccounts(payer, payee);
        requireSpendable(payer, amount);
        if (holds.size >= MAX_HOLDS) {
            throw new IllegalStateException("there is no room for another hold");
        }
        return memory.keep(call, today, holds.append(payer, payee, amount, today + days));
    }

    public int capture(int key, int hold, int amount)
            throws IllegalArgumentException, IndexOutOfBoundsException, NoSuchElementException,
            UnsupportedOperationException, IllegalStateException {
        Call call = new Call(CAPTURE, key, hold, amount, NO_ARGUMENT, NO_ARGUMENT);
        if (memory.hasCallLike(call, today)) {
            return memory.answerTo(key, today);
        }
        requireNewKey(key);
        requireAmount(amount);
        requireActiveHold(hold);
        if (amount > holds.amounts.at(hold)) {
            throw new UnsupportedOperationException("the amount is greater than that of the hold");
        }
        int payer = holds.payers.intAt(hold);
        int payee = holds.payees.intAt(hold);
        int received = books.receivedFor(payer, payee, amount);
        requireSomethingReceived(received);
        requireRoomInJournal();
        holds.states.put(hold, CAPTURED);
        return memory.keep(call, today, post(CAPTURE, payer, payee, amount, received));
    }

    public int release(int hold) throws IndexOutOfBoundsException, NoSuchElementException {
        requireActiveHold(hold);
        holds.states.put(hold, RELEASED);
        return holds.amounts.intAt(hold);
    }

    public int reverse(int key, int transaction)
            throws IllegalArgumentException, IndexOutOfBoundsException, NoSuchElementException,
            UnsupportedOperationException, IllegalStateException {
        Call call = new Call(REVERSAL, key, transaction, NO_ARGUMENT, NO_ARGUMENT, NO_ARGUMENT);
        if (memory.hasCallLike(call, today)) {
            return memory.answerTo(key, today);
        }
        requireNewKey(key);
        requireTransaction(transaction);
        if (journal.kinds.at(transaction) == REVERSAL || journal.isReversed(transaction)) {
            throw new NoSuchElementException("the transaction cannot be reversed");
        }
        int payer = journal.payees.intAt(transaction);
        int paid = journal.receivedAmounts.intAt(transaction);
        if (payer != OUTSIDE) {
            requireSpendable(payer, paid);
        }
        requireRoomInJournal();
        int payee = journal.payers.intAt(transaction);
        int reversal = post(REVERSAL, payer, payee, paid, journal.paidAmounts.intAt(transaction));
        journal.reversals.put(transaction, reversal);
        return memory.keep(call, today, reversal);
    }

    // ---- the batch and the days

    public int addPayment(int payer, int payee, int amount)
            throws IllegalArgumentException, IndexOutOfBoundsException, IllegalStateException {
        requireAmount(amount);
        requireTwoAccounts(payer, payee);
        if (batch.size >= MAX_PAYMENTS) {
            throw new IllegalStateException("there is no room for another payment");
        }
        batch.append(payer, payee, amount);
        return batch.size;
    }

    public int removePayment(int index) throws IndexOutOfBoundsException {
        if (index < 0 || index >= batch.size) {
            throw new IndexOutOfBoundsException("there is no such payment");
        }
        int amount = batch.amounts.intAt(index);
        batch.remove(index, 1);
        return amount;
    }

    public int settle(int key) throws IllegalArgumentException, UnsupportedOperationException {
        Call call = new Call(BATCH, key, NO_ARGUMENT, NO_ARGUMENT, NO_ARGUMENT, NO_ARGUMENT);
        if (memory.hasCallLike(call, today)) {
            return memory.answerTo(key, today);
        }
        requireNewKey(key);
        int settled = cutBySums();
        if (settled < 1) {
            throw new UnsupportedOperationException("the cut is 0");
        }
        for (int i = 0; i < settled; i++) {
            int payer = batch.payers.intAt(i);
            int payee = batch.payees.intAt(i);
            int paid = batch.amounts.intAt(i);
            post(BATCH, payer, payee, paid, books.receivedFor(payer, payee, paid));
        }
        batch.remove(0, settled);
        return memory.keep(call, today, settled);
    }

    public int closeDay() {
        today++;
        return holds.expireBefore(today);
    }

    public int batchSize() {
        return batch.size;
    }

    public int cut() {
        return cutBySums();
    }

    public int cutByTrying() {
        int greatest = 0;
        for (int count = 1; count <= batch.size; count++) {
            if (canSettleTogether(count)) {
                greatest = count;
            }
        }
        return greatest;
    }

    public long netOf(int account) throws IndexOutOfBoundsException {
        requireAccount(account);
        return netOfFirst(cutBySums(), account);
    }

    // ---- questions about accounts

    public int accounts() {
        return books.size;
    }

    public int day() {
        return today;
    }

    public long balance(int account) throws IndexOutOfBoundsException {
        requireAccount(account);
        return books.balances.at(account);
    }

    public long available(int account) throws IndexOutOfBoundsException {
        requireAccount(account);
        return spendable(account);
    }

    public long balanceByReplay(int account) throws IndexOutOfBoundsException {
        requireAccount(account);
        return journal.replay(account, today);
    }

    public long balanceAt(int account, int day) throws IndexOutOfBoundsException, IllegalArgumentException {
        requireAccount(account);
        if (day < 0 || day > today) {
            throw new IllegalArgumentException("the day is out of range");
        }
        return journal.replay(account, day);
    }

    public long houseBalance(int currency, boolean isExchange) throws IllegalArgumentException {
        requireCurrency(currency);
        return isExchange ? books.exchanges.at(currency) : books.outsides.at(currency);
    }

    public long worth(int account) throws IndexOutOfBoundsException {
        requireAccount(account);
        return books.balances.at(account) * books.rates.at(books.currencies.intAt(account));
    }

    // ---- questions about transactions, holds and keys

    public int transactions() {
        return journal.size;
    }

    public char kindOf(int transaction) throws IndexOutOfBoundsException {
        requireTransaction(transaction);
        return (char) journal.kinds.at(transaction);
    }

    public int payerOf(int transaction) throws IndexOutOfBoundsException, NoSuchElementException {
        requireTransaction(transaction);
        int payer = journal.payers.intAt(transaction);
        if (payer == OUTSIDE) {
            throw new NoSuchElementException("the payer is the outside");
        }
        return payer;
    }

    public int payeeOf(int transaction) throws IndexOutOfBoundsException, NoSuchElementException {
        requireTransaction(transaction);
        int payee = journal.payees.intAt(transaction);
        if (payee == OUTSIDE) {
            throw new NoSuchElementException("the payee is the outside");
        }
        return payee;
    }

    public int paidOf(int transaction) throws IndexOutOfBoundsException {
        requireTransaction(transaction);
        return journal.paidAmounts.intAt(transaction);
    }

    public int receivedOf(int transaction) throws IndexOutOfBoundsException {
        requireTransaction(transaction);
        return journal.receivedAmounts.intAt(transaction);
    }

    public int reversalOf(int transaction) throws IndexOutOfBoundsException, NoSuchElementException {
        requireTransaction(transaction);
        if (!journal.isReversed(transaction)) {
            throw new NoSuchElementException("the transaction has not been reversed");
        }
        return journal.reversals.intAt(transaction);
    }

    public char stateOf(int hold) throws IndexOutOfBoundsException {
        requireHold(hold);
        return (char) holds.states.at(hold);
    }

    public int lastDayOf(int hold) throws IndexOutOfBoundsException {
        requireHold(hold);
        return holds.lastDays.intAt(hold);
    }

    public int keys() {
        return memory.countOn(today);
    }

    public int answerOf(int key) throws NoSuchElementException {
        if (!memory.hasKey(key, today)) {
            throw new NoSuchElementException("no such key is remembered");
        }
        return memory.answerTo(key, today);
    }

    // ---- accounts of the whole

    public boolean isBalanced() {
        for (int currency = 0; currency < CURRENCIES; currency++) {
            if (books.sumOf(currency) != 0) {
                return false;
            }
        }
        return true;
    }

    public float reversedShare() throws ArithmeticException {
        int all = journal.size;
        if (all < 1) {
            throw new ArithmeticException("there are no transactions");
        }
        return (float) journal.countReversed() / (float) all;
    }

    public double meanPaid() throws ArithmeticException {
        int all = journal.size;
        if (all < 1) {
            throw new ArithmeticException("there are no transactions");
        }
        return (double) journal.sumPaid() / (double) all;
    }

    // ---- what a call is refused for

    private void requireCurrency(int currency) throws IllegalArgumentException {
        if (currency < 0 || currency >= CURRENCIES) {
            throw new IllegalArgumentException("the currency is out of range");
        }
    }

    private void requireLimit(int limit) throws IllegalArgumentException {
        if (limit < 0 || limit > MAX_LIMIT) {
            throw new IllegalArgumentException("the limit is out of range");
        }
    }

    private void requireAmount(int amount) throws IllegalArgumentException {
        if (amount < 1 || amount > MAX_AMOUNT) {
            throw new IllegalArgumentException("the amount is out of range");
        }
    }

    /** For a call that is not a repeated one: its key must be in range, and be free. */
    private void requireNewKey(int key) throws IllegalArgumentException {
        if (key < 1 || key > MAX_KEY) {
            throw new IllegalArgumentException("the key is out of range");
        }
        if (memory.hasKey(key, today)) {
            throw new IllegalArgumentException("the key is remembered for another call");
        }
    }

    private void requireAccount(int account) throws IndexOutOfBoundsException {
        if (account < 0 || account >= books.size) {
            throw new IndexOutOfBoundsException("there is no such account");
        }
    }

    private void requireTwoAccounts(int payer, int payee)
            throws IllegalArgumentException, IndexOutOfBoundsException {
        if (payer == payee) {
            throw new IllegalArgumentException("the payer is the payee");
        }
        requireAccount(payer);
        requireAccount(payee);
    }

    private void requireTransaction(int transaction) throws IndexOutOfBoundsException {
        if (transaction < 0 || transaction >= journal.size) {
            throw new IndexOutOfBoundsException("there is no such transaction");
        }
    }

    private void requireHold(int hold) throws IndexOutOfBoundsException {
        if (hold < 0 || hold >= holds.size) {
            throw new IndexOutOfBoundsException("there is no such hold");
        }
    }

    private void requireActiveHold(int hold) throws IndexOutOfBoundsException, NoSuchElementException {
        requireHold(hold);
        if (!holds.isActive(hold)) {
            throw new NoSuchElementException("the hold is not active");
        }
    }

    private void requireSpendable(int account, int amount) throws UnsupportedOperationException {
        if (amount > spendable(account)) {
            throw new UnsupportedOperationException("the amount is greater than the available amount");
        }
    }

    private void requireSomethingReceived(int received) throws UnsupportedOperationException {
        if (received < 1) {
            throw new UnsupportedOperationException("the received amount would be 0");
        }
    }

    private void requireRoomInJournal() throws IllegalStateException {
        if (journal.size >= MAX_TRANSACTIONS) {
            throw new IllegalStateException("there is no room for another transaction");
        }
    }

    // ---- what several calls need

    /** The available amount of an account. */
    private long spendable(int account) {
        return books.balances.at(account) + books.limits.at(account) - holds.heldFrom(account);
    }

    /** Makes a transaction: moves the money and writes it down; returns its number. */
    private int post(char kind, int payer, int payee, int paid, int received) {
        books.move(payer, payee, paid, received);
        return journal.append(kind, payer, payee, paid, received, today);
    }

    private int cutBySums() {
        for (int account = 0; account < books.size; account++) {
            sums.put(account, spendable(account));
        }
        int bound = Math.min(batch.size, MAX_TRANSACTIONS - journal.size);
        int greatest = 0;
        for (int i = 0; i < bound; i++) {
            int received = receivedByPayment(i);
            if (received < 1) {
                return greatest;
            }
            sums.add(batch.payers.intAt(i), -batch.amounts.at(i));
            sums.add(batch.payees.intAt(i), received);
            if (hasNoNegativeSum()) {
                greatest = i + 1;
            }
        }
        return greatest;
    }

    private boolean hasNoNegativeSum() {
        for (int account = 0; account < books.size; account++) {
            if (sums.at(account) < 0) {
                return false;
            }
        }
        return true;
    }

    private boolean canSettleTogether(int count) {
        if (journal.size + count > MAX_TRANSACTIONS) {
            return false;
        }
        for (int i = 0; i < count; i++) {
            if (receivedByPayment(i) < 1) {
                return false;
            }
        }
        for (int account = 0; account < books.size; account++) {
            if (spendable(account) + netOfFirst(count, account) < 0) {
                return false;
            }
        }
        return true;
    }

    /** What an account receives minus what it pays by the first payments of the batch. */
    private long netOfFirst(int count, int account) {
        long net = 0;
        for (int i = 0; i < count; i++) {
            if (batch.payers.at(i) == account) {
                net -= batch.amounts.at(i);
            }
            if (batch.payees.at(i) == account) {
                net += receivedByPayment(i);
            }
        }
        return net;
    }

    private int receivedByPayment(int index) {
        return books.receivedFor(batch.payers.intAt(index), batch.payees.intAt(index), batch.amounts.intAt(index));
    }

    /** A row of numbers; beyond its ends it reads as 0 and keeps nothing, so that no index can fail. */
    private static final class Row {
        private final long[] cells;

        Row(int length) {
            cells = new long[length < 0 ? 0 : length];
        }

        long at(int index) {
            return index >= 0 && index < cells.length ? cells[index] : 0;
        }

        /** For rows whose numbers are all ints. */
        int intAt(int index) {
            return index >= 0 && index < cells.length ? (int) cells[index] : 0;
        }

        void put(int index, long value) {
            if (index >= 0 && index < cells.length) {
                cells[index] = value;
            }
        }

        void add(int index, long change) {
            if (index >= 0 && index < cells.length) {
                cells[index] += change;
            }
        }
    }

    /** The accounts, the house accounts and the rates. */
    private static final class Books {
        private int size = 0;
        private final Row currencies = new Row(MAX_ACCOUNTS);
        private final Row limits = new Row(MAX_ACCOUNTS);
        private final Row balances = new Row(MAX_ACCOUNTS);
        private final Row outsides = new Row(CURRENCIES);
        private final Row exchanges = new Row(CURRENCIES);
        private final Row rates = new Row(CURRENCIES);

        Books() {
            for (int currency = 0; currency < CURRENCIES; currency++) {
                rates.put(currency, MAX_RATE);
            }
        }

        int open(int currency, int limit) {
            int account = size;
            currencies.put(account, currency);
            limits.put(account, limit);
            size++;
            return account;
        }

        /** What the payee receives for a paid amount by the rates of now; both are accounts. */
        int receivedFor(int payer, int payee, int paid) {
            int from = currencies.intAt(payer);
            int to = currencies.intAt(payee);
            long divisor = rates.at(to);
            if (from == to || divisor < 1) {
                return paid;
            }
            return (int) (paid * rates.at(from) / divisor);
        }

        void move(int payer, int payee, int paid, int received) {
            int from = currencies.intAt(payer == OUTSIDE ? payee : payer);
            int to = currencies.intAt(payee == OUTSIDE ? payer : payee);
            change(payer, from, -paid);
            change(payee, to, received);
            if (from != to) {
                exchanges.add(from, paid);
                exchanges.add(to, -received);
            }
        }

        private void change(int party, int currency, int amount) {
            if (party == OUTSIDE) {
                outsides.add(currency, amount);
            } else {
                balances.add(party, amount);
            }
        }

        /** All balances of a currency, those of its house accounts included. */
        long sumOf(int currency) {
            long sum = outsides.at(currency) + exchanges.at(currency);
            for (int account = 0; account < size; account++) {
                if (currencies.at(account) == currency) {
                    sum += balances.at(account);
                }
            }
            return sum;
        }
    }

    /** The transactions, in the order in which they were made. */
    private static final class Journal {
        private int size = 0;
        private final Row kinds = new Row(MAX_TRANSACTIONS);
        private final Row payers = new Row(MAX_TRANSACTIONS);
        private final Row payees = new Row(MAX_TRANSACTIONS);
        private final Row paidAmounts = new Row(MAX_TRANSACTIONS);
        private final Row receivedAmounts = new Row(MAX_TRANSACTIONS);
        private final Row days = new Row(MAX_TRANSACTIONS);
        private final Row reversals = new Row(MAX_TRANSACTIONS);

        int append(char kind, int payer, int payee, int paid, int received, int day) {
            int transaction = size;
            kinds.put(transaction, kind);
            payers.put(transaction, payer);
            payees.put(transaction, payee);
            paidAmounts.put(transaction, paid);
            receivedAmounts.put(transaction, received);
            days.put(transaction, day);
            reversals.put(transaction, UNREVERSED);
            size++;
            return transaction;
        }

        boolean isReversed(int transaction) {
            return reversals.at(transaction) != UNREVERSED;
        }

        /** The balance of an account behind all transactions up to a day. */
        long replay(int account, int lastDay) {
            long sum = 0;
            for (int i = 0; i < size; i++) {
                if (days.at(i) <= lastDay) {
                    sum += effectOn(account, i);
                }
            }
            return sum;
        }

        private long effectOn(int account, int transaction) {
            if (payers.at(transaction) == account) {
                return -paidAmounts.at(transaction);
            }
            return payees.at(transaction) == account ? receivedAmounts.at(transaction) : 0;
        }

        int countReversed() {
            int count = 0;
            for (int i = 0; i < size; i++) {
                if (isReversed(i)) {
                    count++;
                }
            }
            return count;
        }

        long sumPaid() {
            long sum = 0;
            for (int i = 0; i < size; i++) {
                sum += paidAmounts.at(i);
            }
            return sum;
        }
    }

    /** The holds, in the order in which they were made. */
    private static final class Holds {
        private int size = 0;
        private final Row payers = new Row(MAX_HOLDS);
        private final Row payees = new Row(MAX_HOLDS);
        private final Row amounts = new Row(MAX_HOLDS);
        private final Row lastDays = new Row(MAX_HOLDS);
        private final Row states = new Row(MAX_HOLDS);

        int append(int payer, int payee, int amount, int lastDay) {
            int hold = size;
            payers.put(hold, payer);
            payees.put(hold, payee);
            amounts.put(hold, amount);
            lastDays.put(hold, lastDay);
            states.put(hold, ACTIVE);
            size++;
            return hold;
        }

        boolean isActive(int hold) {
            return states.at(hold) == ACTIVE;
        }

        /** The held amount of an account. */
        long heldFrom(int account) {
            long sum = 0;
            for (int i = 0; i < size; i++) {
                if (isActive(i) && payers.at(i) == account) {
                    sum += amounts.at(i);
                }
            }
            return sum;
        }

        /** Lets the active holds expire whose last day is before a day; returns how many did. */
        int expireBefore(int day) {
            int count = 0;
            for (int i = 0; i < size; i++) {
                if (isActive(i) && lastDays.at(i) < day) {
                    states.put(i, EXPIRED);
                    count++;
                }
            }
            return count;
        }
    }

    /** The payments that wait, from the first one added. */
    private static final class Batch {
        private int size = 0;
        private final Row payers = new Row(MAX_PAYMENTS);
        private final Row payees = new Row(MAX_PAYMENTS);
        private final Row amounts = new Row(MAX_PAYMENTS);

        void append(int payer, int payee, int amount) {
            payers.put(size, payer);
            payees.put(size, payee);
            amounts.put(size, amount);
            size++;
        }

        /** Takes out so many payments from an index on; those behind them move up. */
        void remove(int index, int count) {
            for (int i = index + count; i < size; i++) {
                payers.put(i - count, payers.at(i));
                payees.put(i - count, payees.at(i));
                amounts.put(i - count, amounts.at(i));
            }
            size -= count;
        }
    }

    /** A call with a key: its method and its arguments, and what is known once it has returned. */
    private static final class Call {
        private final char method;
        private final int key;
        private final int first;
        private final int second;
        private final int third;
        private final int fourth;
        private int madeOn = 0;
        private int answer = 0;

        Call(char method, int key, int first, int second, int third, int fourth) {
            this.method = method;
            this.key = key;
            this.first = first;
            this.second = second;
            this.third = third;
            this.fourth = fourth;
        }

        boolean isLike(Call other) {
            return other != null && method == other.method && key == other.key && first == other.first
                    && second == other.second && third == other.third && fourth == other.fourth;
        }
    }

    /**
     * The calls with keys that returned. None is taken out: a call counts as remembered by its age, so a
     * day that is closed forgets keys without a change here.
     */
    private static final class Memory {
        private int size = 0;
        private final Call[] calls = new Call[MAX_CALLS];

        /** The call whose key is remembered on a day; null if there is none. */
        private Call find(int key, int day) {
            for (int i = 0; i < size && i < calls.length; i++) {
                Call call = calls[i];
                if (call != null && call.key == key && day - call.madeOn <= MAX_KEY_AGE) {
                    return call;
                }
            }
            return null;
        }

        boolean hasKey(int key, int day) {
            return find(key, day) != null;
        }

        boolean hasCallLike(Call call, int day) {
            return call != null && call.isLike(find(call.key, day));
        }

        /** What the call with a key returned; 0 if the key is not remembered. */
        int answerTo(int key, int day) {
            Call call = find(key, day);
            return call == null ? 0 : call.answer;
        }

        /** Remembers a call with what it returns, and returns this. */
        int keep(Call call, int day, int answer) {
            if (call != null && size >= 0 && size < calls.length) {
                call.madeOn = day;
                call.answer = answer;
                calls[size] = call;
                size++;
            }
            return answer;
        }

        int countOn(int day) {
            int count = 0;
            for (int i = 0; i < size && i < calls.length; i++) {
                Call call = calls[i];
                if (call != null && day - call.madeOn <= MAX_KEY_AGE) {
                    count++;
                }
            }
            return count;
        }
    }
}
