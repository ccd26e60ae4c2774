import java.util.Arrays;
import java.util.NoSuchElementException;
import java.util.Objects;
import java.util.concurrent.Callable;

/**
 * One method for each promise of the document, promise1 to promise41: ordinary inputs, the edges that
 * the document names, and wrong inputs. Each refused call is also looked at for what it changed.
 */
public final class PromiseTests {
    private static final Class<?> ARGUMENT = IllegalArgumentException.class;
    private static final Class<?> STATE = IllegalStateException.class;
    private static final Class<?> BOUNDS = IndexOutOfBoundsException.class;
    private static final Class<?> UNSUPPORTED = UnsupportedOperationException.class;
    private static final Class<?> MISSING = NoSuchElementException.class;
    private static final Class<?> ARITHMETIC = ArithmeticException.class;

    private static final int MIN = Integer.MIN_VALUE;
    private static final int MAX = Integer.MAX_VALUE;

    private static int checks = 0;
    private static int wrong = 0;
    private static String promise = "";

    private PromiseTests() {
    }

    public static void main(String[] args) throws Exception {
        for (int number = 1; number <= 41; number++) {
            promise = "promise" + number;
            PromiseTests.class.getDeclaredMethod(promise).invoke(null);
        }
        System.out.println(checks + " checks, " + wrong + " wrong");
        if (wrong != 0) {
            System.exit(1);
        }
    }

    // ---- how a call is checked

    private static void is(String call, Object got, Object due) {
        checks++;
        if (!Objects.equals(got, due)) {
            wrong++;
            System.out.println(promise + ": " + call + " answered " + got + ", due is " + due);
        }
    }

    private static void refused(String call, LedgerStream ledger, Class<?> due, Callable<?> body) {
        String before = allAnswers(ledger);
        is(call, outcome(body), due.getName());
        is(call + " changed nothing", allAnswers(ledger), before);
    }

    private static Object outcome(Callable<?> body) {
        try {
            return body.call();
        } catch (Exception thrown) {
            return thrown.getClass().getName();
        }
    }

    private static String allAnswers(LedgerStream x) {
        StringBuilder all = new StringBuilder();
        all.append(x.accounts()).append(' ').append(x.day()).append(' ').append(x.batchSize()).append(' ');
        all.append(x.cut()).append(' ').append(x.cutByTrying()).append(' ').append(x.keys());
        all.append(' ').append(x.isBalanced()).append('\n');
        for (int account = 0; account < x.accounts(); account++) {
            all.append(x.balance(account)).append(' ').append(x.available(account)).append(' ');
            all.append(x.balanceByReplay(account)).append(' ').append(x.worth(account)).append(' ');
            all.append(x.netOf(account)).append('\n');
        }
        for (int currency = 0; currency < 4; currency++) {
            all.append(x.houseBalance(currency, true)).append(' ').append(x.houseBalance(currency, false));
        }
        for (int i = 0; i < x.transactions(); i++) {
            int transaction = i;
            all.append(x.kindOf(i)).append(outcome(() -> x.payerOf(transaction))).append(' ');
            all.append(outcome(() -> x.payeeOf(transaction))).append(' ').append(x.paidOf(i)).append(' ');
            all.append(x.receivedOf(i)).append(' ').append(outcome(() -> x.reversalOf(transaction))).append('\n');
        }
        for (int hold = 0; outcome(holdState(x, hold)) instanceof Character; hold++) {
            all.append(x.stateOf(hold)).append(x.lastDayOf(hold)).append('\n');
        }
        for (int key = 0; key <= 1000; key++) {
            int asked = key;
            Object answer = outcome(() -> x.answerOf(asked));
            all.append(answer instanceof Integer ? key + ":" + answer + " " : "");
        }
        return all.toString();
    }

    private static Callable<?> holdState(LedgerStream x, int hold) {
        return () -> x.stateOf(hold);
    }

    // ---- ledgers to start from

    /** Accounts 0 and 1 in currency 0, 2 in 1, 3 in 2, without limits; 1000 in each of 0 and 2. */
    private static LedgerStream usual() {
        LedgerStream x = new LedgerStream();
        x.openAccount(0, 0);
        x.openAccount(0, 0);
        x.openAccount(1, 0);
        x.openAccount(2, 0);
        x.deposit(901, 0, 1000);
        x.deposit(902, 2, 1000);
        return x;
    }

    private static void closeDays(LedgerStream x, int count) {
        for (int i = 0; i < count; i++) {
            x.closeDay();
        }
    }

    /** Deposits of 1 into account 0 until there are so many transactions; keys 1 to 150 are used. */
    private static void fillJournal(LedgerStream x, int size) {
        for (int key = 1; x.transactions() < size; key++) {
            x.deposit(key, 0, 1);
        }
    }

    // ---- the promises

    private static void promise1() {
        LedgerStream x = new LedgerStream();
        is("accounts()", x.accounts(), 0);
        is("day()", x.day(), 0);
        is("transactions()", x.transactions(), 0);
        is("keys()", x.keys(), 0);
        is("batchSize()", x.batchSize(), 0);
        is("cut()", x.cut(), 0);
        is("cutByTrying()", x.cutByTrying(), 0);
        is("isBalanced()", x.isBalanced(), true);
        for (int currency = 0; currency < 4; currency++) {
            is("exchange", x.houseBalance(currency, true), 0L);
            is("outside", x.houseBalance(currency, false), 0L);
            is("setRate", x.setRate(currency, 100), 1000);
        }
        refused("balance(0)", x, BOUNDS, () -> x.balance(0));
        refused("kindOf(0)", x, BOUNDS, () -> x.kindOf(0));
        refused("stateOf(0)", x, BOUNDS, () -> x.stateOf(0));
        refused("removePayment(0)", x, BOUNDS, () -> x.removePayment(0));
        refused("meanPaid()", x, ARITHMETIC, x::meanPaid);
        refused("settle(1)", x, UNSUPPORTED, () -> x.settle(1));
        LedgerStream used = usual();
        is("another object's accounts", new LedgerStream().accounts(), 0);
        is("its own accounts", used.accounts(), 4);
    }

    private static void promise2() {
        LedgerStream x = new LedgerStream();
        refused("currency -1", x, ARGUMENT, () -> x.openAccount(-1, 0));
        refused("currency 4", x, ARGUMENT, () -> x.openAccount(4, 0));
        refused("currency MIN", x, ARGUMENT, () -> x.openAccount(MIN, 0));
        refused("currency MAX", x, ARGUMENT, () -> x.openAccount(MAX, 0));
        refused("limit -1", x, ARGUMENT, () -> x.openAccount(0, -1));
        refused("limit 1000001", x, ARGUMENT, () -> x.openAccount(0, 1000001));
        refused("limit MIN", x, ARGUMENT, () -> x.openAccount(0, MIN));
        for (int account = 0; account < 10; account++) {
            is("openAccount", x.openAccount(account % 4, account % 2 == 0 ? 0 : 1000000), account);
            is("accounts", x.accounts(), account + 1);
            is("balance", x.balance(account), 0L);
            is("available", x.available(account), account % 2 == 0 ? 0L : 1000000L);
        }
        refused("eleventh", x, STATE, () -> x.openAccount(0, 0));
        refused("eleventh, wrong currency", x, ARGUMENT, () -> x.openAccount(4, 0));
        refused("eleventh, wrong limit", x, ARGUMENT, () -> x.openAccount(3, -1));
    }

    private static void promise3() {
        LedgerStream x = usual();
        is("setLimit", x.setLimit(0, 1000000), 0);
        is("setLimit again", x.setLimit(0, 500), 1000000);
        is("available", x.available(0), 1500L);
        x.withdraw(1, 0, 1300);
        x.hold(2, 0, 1, 50, 3);
        refused("below held and paid", x, UNSUPPORTED, () -> x.setLimit(0, 349));
        is("down to it", x.setLimit(0, 350), 500);
        is("available 0", x.available(0), 0L);
        refused("limit -1", x, ARGUMENT, () -> x.setLimit(0, -1));
        refused("limit 1000001", x, ARGUMENT, () -> x.setLimit(0, 1000001));
        refused("limit MIN", x, ARGUMENT, () -> x.setLimit(0, MIN));
        refused("limit MAX", x, ARGUMENT, () -> x.setLimit(0, MAX));
        refused("account -1", x, BOUNDS, () -> x.setLimit(-1, 5));
        refused("account 4", x, BOUNDS, () -> x.setLimit(4, 5));
        refused("account MIN", x, BOUNDS, () -> x.setLimit(MIN, 5));
        refused("account MAX", x, BOUNDS, () -> x.setLimit(MAX, 5));
        refused("account before limit", x, BOUNDS, () -> x.setLimit(4, -1));
        is("limit 0", x.setLimit(1, 0), 0);
    }

    private static void promise4() {
        LedgerStream x = usual();
        is("setRate down", x.setRate(3, 100), 1000);
        is("setRate up", x.setRate(3, 1000), 100);
        is("setRate", x.setRate(0, 250), 1000);
        is("worth", x.worth(0), 250000L);
        is("worth in another currency", x.worth(2), 1000000L);
        refused("currency -1", x, ARGUMENT, () -> x.setRate(-1, 200));
        refused("currency 4", x, ARGUMENT, () -> x.setRate(4, 200));
        refused("currency MAX", x, ARGUMENT, () -> x.setRate(MAX, 200));
        refused("rate 99", x, ARGUMENT, () -> x.setRate(0, 99));
        refused("rate 1001", x, ARGUMENT, () -> x.setRate(0, 1001));
        refused("rate MIN", x, ARGUMENT, () -> x.setRate(0, MIN));
        is("rate as it was", x.setRate(0, 251), 250);
    }

    private static void promise5() {
        LedgerStream x = usual();
        refused("key 0", x, ARGUMENT, () -> x.deposit(0, 0, 5));
        refused("key 1000", x, ARGUMENT, () -> x.deposit(1000, 0, 5));
        refused("key MIN", x, ARGUMENT, () -> x.deposit(MIN, 0, 5));
        refused("key MAX", x, ARGUMENT, () -> x.deposit(MAX, 0, 5));
        refused("amount 0", x, ARGUMENT, () -> x.deposit(1, 0, 0));
        refused("amount 1000001", x, ARGUMENT, () -> x.deposit(1, 0, 1000001));
        refused("amount MIN", x, ARGUMENT, () -> x.deposit(1, 0, MIN));
        refused("account -1", x, BOUNDS, () -> x.deposit(1, -1, 5));
        refused("account 4", x, BOUNDS, () -> x.deposit(1, 4, 5));
        refused("account MAX", x, BOUNDS, () -> x.deposit(1, MAX, 5));
        refused("amount before account", x, ARGUMENT, () -> x.deposit(1, 4, 0));
        is("deposit", x.deposit(1, 0, 1000000), 2);
        is("balance", x.balance(0), 1001000L);
        is("outside", x.houseBalance(0, false), -1001000L);
        is("least", x.deposit(999, 3, 1), 3);
        is("outside of its currency", x.houseBalance(2, false), -1L);
        is("kind", x.kindOf(3), 'd');
        is("paid", x.paidOf(3), 1);
        is("received", x.receivedOf(3), 1);
        checkKeyOfDeposit(x);
        LedgerStream full = usual();
        fillJournal(full, 149);
        is("the last one", full.deposit(990, 0, 7), 149);
        refused("full", full, STATE, () -> full.deposit(991, 0, 7));
        refused("account before full", full, BOUNDS, () -> full.deposit(991, 4, 7));
        is("repeated though full", full.deposit(990, 0, 7), 149);
    }

    private static void checkKeyOfDeposit(LedgerStream x) {
        is("repeated", x.deposit(1, 0, 1000000), 2);
        is("transactions", x.transactions(), 4);
        is("balance once", x.balance(0), 1001000L);
        refused("key with another amount", x, ARGUMENT, () -> x.deposit(1, 0, 999999));
        refused("key with another account", x, ARGUMENT, () -> x.deposit(1, 1, 1000000));
        refused("key before account", x, ARGUMENT, () -> x.deposit(1, 77, 1000000));
        refused("key of another method", x, ARGUMENT, () -> x.withdraw(1, 0, 1000000));
    }

    private static void promise6() {
        LedgerStream x = usual();
        x.setLimit(0, 200);
        x.hold(1, 0, 1, 300, 2);
        refused("key 0", x, ARGUMENT, () -> x.withdraw(0, 0, 5));
        refused("key 1000", x, ARGUMENT, () -> x.withdraw(1000, 0, 5));
        refused("amount 0", x, ARGUMENT, () -> x.withdraw(2, 0, 0));
        refused("amount 1000001", x, ARGUMENT, () -> x.withdraw(2, 0, 1000001));
        refused("account -1", x, BOUNDS, () -> x.withdraw(2, -1, 5));
        refused("account 4", x, BOUNDS, () -> x.withdraw(2, 4, 5));
        refused("amount before account", x, ARGUMENT, () -> x.withdraw(2, 4, 0));
        refused("more than available", x, UNSUPPORTED, () -> x.withdraw(2, 0, 901));
        refused("nothing there", x, UNSUPPORTED, () -> x.withdraw(2, 1, 1));
        is("all that is available", x.withdraw(2, 0, 900), 2);
        is("available", x.available(0), 0L);
        is("balance", x.balance(0), 100L);
        is("outside", x.houseBalance(0, false), -100L);
        is("kind", x.kindOf(2), 'w');
        is("payer", x.payerOf(2), 0);
        is("paid", x.paidOf(2), 900);
        is("received", x.receivedOf(2), 900);
        x.withdraw(3, 2, 250);
        is("outside of its currency", x.houseBalance(1, false), -750L);
        is("the other outside as it was", x.houseBalance(0, false), -100L);
        is("repeated", x.withdraw(2, 0, 900), 2);
        is("transactions", x.transactions(), 4);
        refused("key with another amount", x, ARGUMENT, () -> x.withdraw(2, 0, 1));
        refused("key with another account", x, ARGUMENT, () -> x.withdraw(2, 1, 900));
        refused("key of another method", x, ARGUMENT, () -> x.deposit(2, 0, 900));
        LedgerStream full = usual();
        fillJournal(full, 149);
        is("the last one", full.withdraw(990, 2, 7), 149);
        refused("full", full, STATE, () -> full.withdraw(991, 2, 7));
        refused("too much before full", full, UNSUPPORTED, () -> full.withdraw(991, 1, 7));
        is("repeated though full", full.withdraw(990, 2, 7), 149);
    }

    private static void promise7() {
        LedgerStream x = usual();
        refused("key 0", x, ARGUMENT, () -> x.transfer(0, 0, 1, 5));
        refused("key 1000", x, ARGUMENT, () -> x.transfer(1000, 0, 1, 5));
        refused("amount 0", x, ARGUMENT, () -> x.transfer(1, 0, 1, 0));
        refused("amount 1000001", x, ARGUMENT, () -> x.transfer(1, 0, 1, 1000001));
        refused("payer is payee", x, ARGUMENT, () -> x.transfer(1, 0, 0, 5));
        refused("payer is payee, before account", x, ARGUMENT, () -> x.transfer(1, 4, 4, 5));
        refused("payer 4", x, BOUNDS, () -> x.transfer(1, 4, 0, 5));
        refused("payee 4", x, BOUNDS, () -> x.transfer(1, 0, 4, 5));
        refused("payer -1", x, BOUNDS, () -> x.transfer(1, -1, 0, 5));
        refused("payee -1", x, BOUNDS, () -> x.transfer(1, 0, -1, 5));
        refused("account before available", x, BOUNDS, () -> x.transfer(1, 1, 4, 5));
        refused("more than available", x, UNSUPPORTED, () -> x.transfer(1, 0, 1, 1001));
        is("in one currency", x.transfer(1, 0, 1, 1000), 2);
        is("payer", x.balance(0), 0L);
        is("payee", x.balance(1), 1000L);
        is("no exchange", x.houseBalance(0, true), 0L);
        is("back", x.transfer(2, 1, 0, 600), 3);
        checkTransferBetweenCurrencies(x);
        is("repeated", x.transfer(1, 0, 1, 1000), 2);
        is("transactions", x.transactions(), 7);
        refused("key with another amount", x, ARGUMENT, () -> x.transfer(1, 0, 1, 999));
        refused("key with another payer", x, ARGUMENT, () -> x.transfer(1, 2, 1, 1000));
        refused("key with another payee", x, ARGUMENT, () -> x.transfer(1, 0, 2, 1000));
        refused("key of another method", x, ARGUMENT, () -> x.hold(1, 0, 1, 1000, 0));
        LedgerStream full = usual();
        fillJournal(full, 149);
        is("the last one", full.transfer(990, 0, 1, 7), 149);
        refused("full", full, STATE, () -> full.transfer(991, 0, 1, 7));
        refused("too much before full", full, UNSUPPORTED, () -> full.transfer(991, 3, 1, 7));
        full.setRate(0, 100);
        refused("nothing received before full", full, UNSUPPORTED, () -> full.transfer(991, 0, 2, 9));
        is("repeated though full", full.transfer(990, 0, 1, 7), 149);
    }

    private static void checkTransferBetweenCurrencies(LedgerStream x) {
        x.setRate(0, 300);
        x.setRate(1, 700);
        refused("nothing received", x, UNSUPPORTED, () -> x.transfer(3, 0, 2, 2));
        is("rounded down", x.transfer(3, 0, 2, 9), 4);
        is("received", x.receivedOf(4), 3);
        is("paid", x.paidOf(4), 9);
        is("kind", x.kindOf(4), 't');
        is("payee's balance", x.balance(2), 1003L);
        is("payer's balance", x.balance(0), 591L);
        is("payer's exchange", x.houseBalance(0, true), 9L);
        is("payee's exchange", x.houseBalance(1, true), -3L);
        x.setRate(1, 1000);
        x.setRate(2, 100);
        is("ten for one", x.transfer(4, 2, 3, 1003), 5);
        refused("not quite 1 received", x, UNSUPPORTED, () -> x.transfer(5, 3, 2, 9));
        is("ten times received", x.receivedOf(5), 10030);
        is("rounded exchange", x.houseBalance(1, true), 1000L);
        is("its balance", x.balance(3), 10030L);
        is("just 1 received", x.transfer(5, 3, 2, 10), 6);
        is("that is 1", x.receivedOf(6), 1);
    }

    private static void promise8() {
        LedgerStream x = usual();
        refused("key 0", x, ARGUMENT, () -> x.hold(0, 0, 1, 5, 0));
        refused("key 1000", x, ARGUMENT, () -> x.hold(1000, 0, 1, 5, 0));
        refused("amount 0", x, ARGUMENT, () -> x.hold(1, 0, 1, 0, 0));
        refused("amount 1000001", x, ARGUMENT, () -> x.hold(1, 0, 1, 1000001, 0));
        refused("days -1", x, ARGUMENT, () -> x.hold(1, 0, 1, 5, -1));
        refused("days 21", x, ARGUMENT, () -> x.hold(1, 0, 1, 5, 21));
        refused("days MIN", x, ARGUMENT, () -> x.hold(1, 0, 1, 5, MIN));
        refused("days MAX", x, ARGUMENT, () -> x.hold(1, 0, 1, 5, MAX));
        refused("payer is payee", x, ARGUMENT, () -> x.hold(1, 0, 0, 5, 0));
        refused("payer is payee, before account", x, ARGUMENT, () -> x.hold(1, -1, -1, 5, 0));
        refused("payer 4", x, BOUNDS, () -> x.hold(1, 4, 0, 5, 0));
        refused("payee 4", x, BOUNDS, () -> x.hold(1, 0, 4, 5, 0));
        refused("payer -1", x, BOUNDS, () -> x.hold(1, -1, 0, 5, 0));
        refused("payee -1", x, BOUNDS, () -> x.hold(1, 0, -1, 5, 0));
        refused("days before account", x, ARGUMENT, () -> x.hold(1, 0, 4, 5, 21));
        refused("more than available", x, UNSUPPORTED, () -> x.hold(1, 0, 1, 1001, 0));
        is("hold", x.hold(1, 0, 1, 400, 0), 0);
        is("available", x.available(0), 600L);
        is("balance", x.balance(0), 1000L);
        is("payee's available", x.available(1), 0L);
        is("last day", x.lastDayOf(0), 0);
        is("state", x.stateOf(0), 'a');
        is("no transaction", x.transactions(), 2);
        refused("more than is left", x, UNSUPPORTED, () -> x.hold(2, 0, 1, 601, 20));
        is("all that is left", x.hold(2, 0, 3, 600, 20), 1);
        is("available 0", x.available(0), 0L);
        is("last day in 20 days", x.lastDayOf(1), 20);
        checkKeyOfHold(x);
        checkManyHolds();
    }

    private static void checkKeyOfHold(LedgerStream x) {
        is("repeated", x.hold(2, 0, 3, 600, 20), 1);
        refused("key with other days", x, ARGUMENT, () -> x.hold(2, 0, 3, 600, 19));
        refused("key with another amount", x, ARGUMENT, () -> x.hold(2, 0, 3, 599, 20));
        refused("key with another payer", x, ARGUMENT, () -> x.hold(2, 2, 3, 600, 20));
        refused("key with another payee", x, ARGUMENT, () -> x.hold(2, 0, 1, 600, 20));
        refused("key of another method", x, ARGUMENT, () -> x.transfer(2, 0, 3, 600));
    }

    private static void checkManyHolds() {
        LedgerStream x = usual();
        x.setRate(0, 100);
        for (int hold = 0; hold < 29; hold++) {
            is("hold", x.hold(1 + hold, 0, 1, 1, 20), hold);
        }
        x.release(3);
        is("thirtieth, that would receive 0", x.hold(30, 0, 2, 1, 20), 29);
        refused("thirty-first", x, STATE, () -> x.hold(31, 0, 1, 1, 20));
        refused("too much before thirty-first", x, UNSUPPORTED, () -> x.hold(31, 1, 0, 1, 20));
        is("repeated though full", x.hold(30, 0, 2, 1, 20), 29);
        LedgerStream full = usual();
        fillJournal(full, 150);
        is("a hold with a full journal", full.hold(990, 0, 1, 5, 1), 0);
    }

    private static void promise9() {
        LedgerStream x = usual();
        x.setRate(0, 100);
        x.hold(1, 0, 2, 500, 1);
        x.hold(2, 0, 1, 300, 1);
        refused("key 0", x, ARGUMENT, () -> x.capture(0, 0, 5));
        refused("key 1000", x, ARGUMENT, () -> x.capture(1000, 0, 5));
        refused("amount 0", x, ARGUMENT, () -> x.capture(3, 0, 0));
        refused("amount 1000001", x, ARGUMENT, () -> x.capture(3, 0, 1000001));
        refused("hold -1", x, BOUNDS, () -> x.capture(3, -1, 5));
        refused("hold 2", x, BOUNDS, () -> x.capture(3, 2, 5));
        refused("hold MAX", x, BOUNDS, () -> x.capture(3, MAX, 5));
        refused("amount before hold", x, ARGUMENT, () -> x.capture(3, 2, 0));
        refused("more than held", x, UNSUPPORTED, () -> x.capture(3, 0, 501));
        refused("nothing received", x, UNSUPPORTED, () -> x.capture(3, 0, 9));
        x.setRate(0, 500);
        is("by the rates of this time", x.capture(3, 0, 9), 2);
        is("kind", x.kindOf(2), 'c');
        is("payer", x.payerOf(2), 0);
        is("payee", x.payeeOf(2), 2);
        is("paid", x.paidOf(2), 9);
        is("received", x.receivedOf(2), 4);
        is("state", x.stateOf(0), 'c');
        is("the rest is free", x.available(0), 691L);
        is("exchange", x.houseBalance(1, true), -4L);
        refused("captured before", x, MISSING, () -> x.capture(4, 0, 1));
        refused("captured before, too much", x, MISSING, () -> x.capture(4, 0, 501));
        is("all that is held", x.capture(4, 1, 300), 3);
        is("repeated", x.capture(3, 0, 9), 2);
        is("transactions", x.transactions(), 4);
        refused("key with another amount", x, ARGUMENT, () -> x.capture(3, 0, 8));
        refused("key with another hold", x, ARGUMENT, () -> x.capture(3, 1, 9));
        refused("key of another method", x, ARGUMENT, () -> x.deposit(3, 0, 9));
        checkCaptureAtTheEnd();
    }

    private static void checkCaptureAtTheEnd() {
        LedgerStream x = usual();
        x.hold(1, 0, 1, 5, 0);
        x.closeDay();
        refused("expired", x, MISSING, () -> x.capture(3, 0, 5));
        x.hold(2, 0, 1, 1000, 1);
        x.release(1);
        refused("released", x, MISSING, () -> x.capture(3, 1, 5));
        x.closeDay();
        x.hold(4, 0, 1, 1000, 0);
        is("all of the balance", x.capture(5, 2, 1000), 2);
        LedgerStream full = usual();
        full.hold(991, 2, 3, 5, 0);
        full.hold(992, 2, 3, 5, 0);
        fillJournal(full, 149);
        is("the last one", full.capture(993, 0, 5), 149);
        refused("full", full, STATE, () -> full.capture(994, 1, 5));
        refused("too much before full", full, UNSUPPORTED, () -> full.capture(994, 1, 6));
        is("repeated though full", full.capture(993, 0, 5), 149);
    }

    private static void promise10() {
        LedgerStream x = usual();
        x.hold(1, 0, 1, 400, 0);
        x.hold(2, 0, 1, 500, 0);
        x.hold(3, 0, 1, 60, 0);
        refused("hold -1", x, BOUNDS, () -> x.release(-1));
        refused("hold 3", x, BOUNDS, () -> x.release(3));
        refused("hold MIN", x, BOUNDS, () -> x.release(MIN));
        is("release", x.release(1), 500);
        is("state", x.stateOf(1), 'r');
        is("others' state", x.stateOf(0), 'a');
        is("available", x.available(0), 540L);
        refused("released before", x, MISSING, () -> x.release(1));
        x.capture(4, 0, 400);
        refused("captured before", x, MISSING, () -> x.release(0));
        x.closeDay();
        refused("expired", x, MISSING, () -> x.release(2));
        is("no key", x.keys(), 6);
    }

    private static void promise11() {
        LedgerStream x = usual();
        x.setRate(0, 300);
        x.setRate(1, 700);
        x.transfer(1, 0, 2, 9);
        refused("key 0", x, ARGUMENT, () -> x.reverse(0, 2));
        refused("key 1000", x, ARGUMENT, () -> x.reverse(1000, 2));
        refused("transaction -1", x, BOUNDS, () -> x.reverse(2, -1));
        refused("transaction 3", x, BOUNDS, () -> x.reverse(2, 3));
        refused("transaction MAX", x, BOUNDS, () -> x.reverse(2, MAX));
        refused("key before transaction", x, ARGUMENT, () -> x.reverse(1, 3));
        x.setRate(0, 1000);
        is("reverse", x.reverse(2, 2), 3);
        is("kind", x.kindOf(3), 'r');
        is("payer", x.payerOf(3), 2);
        is("payee", x.payeeOf(3), 0);
        is("paid", x.paidOf(3), 3);
        is("received whatever the rates are", x.receivedOf(3), 9);
        is("payer's exchange", x.houseBalance(1, true), 0L);
        is("payee's exchange", x.houseBalance(0, true), 0L);
        is("balance", x.balance(0), 1000L);
        is("reversal", x.reversalOf(2), 3);
        refused("reversed before", x, MISSING, () -> x.reverse(3, 2));
        refused("a reversal", x, MISSING, () -> x.reverse(3, 3));
        is("repeated", x.reverse(2, 2), 3);
        refused("key with another transaction", x, ARGUMENT, () -> x.reverse(2, 1));
        refused("key of another method", x, ARGUMENT, () -> x.settle(2));
        is("transactions", x.transactions(), 4);
        checkReversalsWithTheOutside();
        checkReversalsOfHoldsAndBatch();
        LedgerStream full = usual();
        fillJournal(full, 148);
        is("the last but one", full.reverse(989, 1), 148);
        is("the last one", full.reverse(990, 0), 149);
        refused("full", full, STATE, () -> full.reverse(991, 2));
        refused("reversed before, and full", full, MISSING, () -> full.reverse(991, 0));
        is("repeated though full", full.reverse(990, 0), 149);
    }

    private static void checkReversalsWithTheOutside() {
        LedgerStream x = usual();
        x.withdraw(1, 0, 1);
        refused("a deposit that was spent", x, UNSUPPORTED, () -> x.reverse(2, 0));
        is("a withdrawal, paid by the outside", x.reverse(2, 2), 3);
        is("its payee", x.payeeOf(3), 0);
        refused("its payer", x, MISSING, () -> x.payerOf(3));
        is("a deposit", x.reverse(3, 0), 4);
        refused("its payee", x, MISSING, () -> x.payeeOf(4));
        is("balance", x.balance(0), 0L);
        is("outside", x.houseBalance(0, false), 0L);
        LedgerStream held = usual();
        held.hold(1, 0, 1, 1, 0);
        refused("a deposit that is held", held, UNSUPPORTED, () -> held.reverse(2, 0));
        held.setLimit(0, 1);
        is("by the limit", held.reverse(2, 0), 2);
        is("balance", held.balance(0), 0L);
        LedgerStream full = usual();
        full.withdraw(991, 2, 1000);
        fillJournal(full, 150);
        refused("too much before full", full, UNSUPPORTED, () -> full.reverse(992, 1));
    }

    private static void checkReversalsOfHoldsAndBatch() {
        LedgerStream x = usual();
        x.hold(1, 0, 1, 10, 5);
        x.capture(2, 0, 10);
        is("a captured hold", x.reverse(3, 2), 3);
        is("is not active again", x.stateOf(0), 'c');
        is("available", x.available(0), 1000L);
        x.addPayment(0, 1, 20);
        x.settle(4);
        is("a payment of the batch", x.reverse(5, 4), 5);
        is("balance", x.balance(0), 1000L);
    }

    private static void promise12() {
        LedgerStream x = usual();
        refused("amount 0", x, ARGUMENT, () -> x.addPayment(0, 1, 0));
        refused("amount 1000001", x, ARGUMENT, () -> x.addPayment(0, 1, 1000001));
        refused("amount MIN", x, ARGUMENT, () -> x.addPayment(0, 1, MIN));
        refused("payer is payee", x, ARGUMENT, () -> x.addPayment(2, 2, 5));
        refused("payer is payee, before account", x, ARGUMENT, () -> x.addPayment(4, 4, 5));
        refused("payer 4", x, BOUNDS, () -> x.addPayment(4, 0, 5));
        refused("payee 4", x, BOUNDS, () -> x.addPayment(0, 4, 5));
        refused("payer -1", x, BOUNDS, () -> x.addPayment(-1, 0, 5));
        refused("payee -1", x, BOUNDS, () -> x.addPayment(0, -1, 5));
        is("least", x.addPayment(0, 1, 1), 1);
        is("more than available", x.addPayment(1, 0, 1000000), 2);
        is("cut", x.cut(), 1);
        for (int size = 3; size <= 12; size++) {
            is("addPayment", x.addPayment(0, 1, size), size);
        }
        refused("thirteenth", x, STATE, () -> x.addPayment(0, 1, 1));
        refused("account before thirteenth", x, BOUNDS, () -> x.addPayment(0, 4, 1));
        is("removed", x.removePayment(11), 12);
        is("again room", x.addPayment(0, 1, 77), 12);
        is("at the end", x.removePayment(11), 77);
        is("balance", x.balance(0), 1000L);
        is("no keys", x.keys(), 2);
    }

    private static void promise13() {
        LedgerStream x = usual();
        refused("index 0 of none", x, BOUNDS, () -> x.removePayment(0));
        for (int amount = 11; amount <= 22; amount++) {
            x.addPayment(0, 1, amount);
        }
        refused("index -1", x, BOUNDS, () -> x.removePayment(-1));
        refused("index 12", x, BOUNDS, () -> x.removePayment(12));
        refused("index MAX", x, BOUNDS, () -> x.removePayment(MAX));
        is("first", x.removePayment(0), 11);
        is("size", x.batchSize(), 11);
        is("now first", x.removePayment(0), 12);
        is("middle", x.removePayment(4), 17);
        is("behind it", x.removePayment(4), 18);
        is("last", x.removePayment(7), 22);
        refused("index behind the last", x, BOUNDS, () -> x.removePayment(7));
        is("size", x.batchSize(), 7);
        LedgerStream moved = usual();
        moved.addPayment(0, 1, 5);
        moved.addPayment(2, 3, 6);
        moved.removePayment(0);
        moved.settle(1);
        is("payer moved along", moved.payerOf(2), 2);
        is("payee moved along", moved.payeeOf(2), 3);
    }

    private static void promise14() {
        LedgerStream x = usual();
        refused("empty", x, UNSUPPORTED, () -> x.settle(1));
        refused("key 0 before empty", x, ARGUMENT, () -> x.settle(0));
        refused("key 1000 before empty", x, ARGUMENT, () -> x.settle(1000));
        x.addPayment(1, 0, 50);
        refused("cut 0", x, UNSUPPORTED, () -> x.settle(1));
        x.setRate(1, 500);
        x.addPayment(2, 1, 101);
        x.addPayment(0, 2, 500);
        x.addPayment(1, 0, 7777);
        refused("key remembered", x, ARGUMENT, () -> x.settle(901));
        is("settle", x.settle(1), 3);
        is("size", x.batchSize(), 1);
        is("transactions", x.transactions(), 5);
        is("kind", x.kindOf(4), 'b');
        is("in their order", x.payerOf(2), 1);
        is("second payer", x.payerOf(3), 2);
        is("second received", x.receivedOf(3), 50);
        is("third received", x.receivedOf(4), 1000);
        is("third payee", x.payeeOf(4), 2);
        is("balance 0", x.balance(0), 550L);
        is("balance 1", x.balance(1), 0L);
        is("balance 2", x.balance(2), 1899L);
        is("exchange 0", x.houseBalance(0, true), 450L);
        is("exchange 1", x.houseBalance(1, true), -899L);
        is("repeated", x.settle(1), 3);
        is("transactions still", x.transactions(), 5);
        refused("cut 0 of the rest", x, UNSUPPORTED, () -> x.settle(2));
        refused("key of another method", x, ARGUMENT, () -> x.deposit(1, 0, 5));
        is("the rest from 0 on", x.removePayment(0), 7777);
        checkSettleWithLittleRoom();
    }

    private static void checkSettleWithLittleRoom() {
        LedgerStream x = usual();
        fillJournal(x, 148);
        for (int amount = 1; amount <= 4; amount++) {
            x.addPayment(0, 1, amount);
        }
        is("as many as there is room for", x.settle(990), 2);
        is("transactions", x.transactions(), 150);
        is("size", x.batchSize(), 2);
        refused("full", x, UNSUPPORTED, () -> x.settle(991));
        is("repeated though full", x.settle(990), 2);
        is("the third is first", x.removePayment(0), 3);
    }

    private static void promise15() {
        LedgerStream x = usual();
        x.hold(1, 0, 1, 10, 0);
        x.hold(2, 0, 1, 20, 1);
        x.hold(3, 0, 1, 30, 0);
        x.hold(4, 0, 1, 40, 0);
        x.hold(5, 0, 1, 50, 0);
        x.release(3);
        x.capture(6, 4, 50);
        is("two expire", x.closeDay(), 2);
        is("day", x.day(), 1);
        is("expired", x.stateOf(0), 'x');
        is("last day is this day", x.stateOf(1), 'a');
        is("released", x.stateOf(3), 'r');
        is("captured", x.stateOf(4), 'c');
        is("available", x.available(0), 930L);
        is("one expires", x.closeDay(), 1);
        is("none expires", x.closeDay(), 0);
        is("available", x.available(0), 950L);
        is("day", x.day(), 3);
        x.hold(7, 0, 1, 10, 20);
        for (int day = 4; day <= 23; day++) {
            is("not yet", x.closeDay(), 0);
        }
        is("after 20 days", x.closeDay(), 1);
        x.addPayment(0, 1, 5);
        x.setRate(0, 200);
        x.setLimit(0, 5);
        x.closeDay();
        is("the batch stays", x.batchSize(), 1);
        is("the rate stays", x.setRate(0, 200), 200);
        is("the limit stays", x.setLimit(0, 5), 5);
        checkForgottenKeys();
    }

    private static void checkForgottenKeys() {
        LedgerStream x = usual();
        x.closeDay();
        x.deposit(1, 0, 5);
        is("keys of both days", x.keys(), 3);
        x.closeDay();
        is("repeated on the second day", x.deposit(901, 0, 1000), 0);
        is("keys on the second day", x.keys(), 3);
        x.closeDay();
        is("a repeated call does not keep its key", x.keys(), 1);
        is("used again", x.deposit(901, 0, 1000), 3);
        is("still remembered", x.deposit(1, 0, 5), 2);
        x.closeDay();
        is("only the key used again", x.keys(), 1);
        is("of another method", x.withdraw(1, 0, 5), 4);
        checkKeysOfEachMethod();
    }

    /** The same seven keys are used on days 4 and 7, for calls with other amounts. */
    private static void checkKeysOfEachMethod() {
        LedgerStream x = usual();
        closeDays(x, 4);
        int[] first = callEachMethod(x, 10);
        is("first answers", Arrays.toString(first), "[2, 3, 4, 0, 5, 6, 1]");
        closeDays(x, 2);
        is("repeated on the second day", Arrays.toString(callEachMethod(x, 10)),
            Arrays.toString(first));
        refused("not yet free", x, ARGUMENT, () -> x.deposit(1, 0, 11));
        closeDays(x, 1);
        int[] second = callEachMethod(x, 11);
        is("second answers", Arrays.toString(second), "[8, 9, 10, 1, 11, 12, 2]");
        is("repeated on the same day", Arrays.toString(callEachMethod(x, 11)),
            Arrays.toString(second));
        is("keys", x.keys(), 7);
        is("answerOf", x.answerOf(7), 2);
        closeDays(x, 2);
        is("keys on the second day", x.keys(), 7);
        closeDays(x, 1);
        is("keys behind it", x.keys(), 0);
    }

    private static int[] callEachMethod(LedgerStream x, int amount) {
        int[] answers = new int[7];
        answers[0] = x.deposit(1, 0, amount);
        answers[1] = x.withdraw(2, 0, amount);
        answers[2] = x.transfer(3, 0, 1, amount);
        answers[3] = x.hold(4, 0, 1, amount, 20);
        answers[4] = x.capture(5, answers[3], amount);
        answers[5] = x.reverse(6, answers[4]);
        for (int i = x.batchSize(); x.day() == 4 && i < 1 || x.day() == 7 && i < 2; i++) {
            x.addPayment(0, 1, amount);
        }
        answers[6] = x.settle(7);
        while (x.batchSize() > 0) {
            x.removePayment(0);
        }
        return answers;
    }

    private static void promise16() {
        LedgerStream x = usual();
        is("none", x.batchSize(), 0);
        x.addPayment(0, 1, 5);
        x.addPayment(0, 1, 5);
        x.addPayment(0, 1, 2000);
        is("three", x.batchSize(), 3);
        x.removePayment(0);
        is("two", x.batchSize(), 2);
        x.settle(1);
        is("one", x.batchSize(), 1);
    }

    private static void promise17() {
        LedgerStream x = usual();
        isCut(x, 0);
        x.addPayment(1, 0, 100);
        isCut(x, 0);
        x.addPayment(0, 1, 99);
        isCut(x, 0);
        x.addPayment(0, 1, 1);
        isCut(x, 3);
        x.addPayment(1, 0, 1);
        isCut(x, 3);
        x.setLimit(1, 1);
        isCut(x, 4);
        x.hold(1, 1, 0, 1, 0);
        isCut(x, 3);
        x.closeDay();
        isCut(x, 4);
        checkCutByReceived();
        checkCutByRoom();
    }

    private static void isCut(LedgerStream x, int due) {
        String before = allAnswers(x);
        is("cut()", x.cut(), due);
        is("cutByTrying()", x.cutByTrying(), due);
        is("cut() again", x.cut(), due);
        is("changed nothing", allAnswers(x), before);
    }

    private static void checkCutByReceived() {
        LedgerStream x = usual();
        x.setRate(0, 100);
        x.addPayment(0, 2, 10);
        x.addPayment(0, 1, 1);
        x.addPayment(0, 2, 9);
        x.addPayment(0, 1, 1);
        isCut(x, 2);
        x.setRate(1, 900);
        isCut(x, 4);
        x.setRate(1, 901);
        isCut(x, 2);
        x.removePayment(2);
        isCut(x, 3);
        LedgerStream first = usual();
        first.setRate(0, 100);
        first.addPayment(0, 2, 9);
        first.addPayment(0, 1, 9);
        isCut(first, 0);
        first.setRate(0, 1000);
        isCut(first, 2);
        first.setLimit(0, 0);
        first.withdraw(1, 0, 983);
        isCut(first, 1);
        first.withdraw(2, 0, 9);
        isCut(first, 0);
    }

    private static void checkCutByRoom() {
        LedgerStream x = usual();
        fillJournal(x, 147);
        for (int i = 0; i < 4; i++) {
            x.addPayment(0, 1, 1);
        }
        isCut(x, 3);
        x.deposit(990, 0, 1);
        isCut(x, 2);
        x.deposit(991, 0, 1);
        x.deposit(992, 0, 1);
        isCut(x, 0);
    }

    private static void promise18() {
        LedgerStream x = usual();
        for (int i = 0; i < 11; i++) {
            x.addPayment(i % 2 == 0 ? 1 : 3, i % 2 == 0 ? 3 : 1, 50 + i);
            is("not before the money comes", x.cutByTrying(), 0);
        }
        x.addPayment(2, 1, 1000);
        isCut(x, 12);
        x.setRate(1, 100);
        isCut(x, 12);
        x.withdraw(1, 2, 1);
        isCut(x, 0);
    }

    private static void promise19() {
        LedgerStream x = usual();
        is("no batch", x.netOf(0), 0L);
        x.setRate(1, 500);
        x.addPayment(0, 2, 300);
        x.addPayment(2, 1, 101);
        x.addPayment(1, 0, 20);
        x.addPayment(1, 0, 31);
        is("cut", x.cut(), 3);
        is("payer", x.netOf(0), -280L);
        is("payee", x.netOf(1), 30L);
        is("both", x.netOf(2), 499L);
        is("neither", x.netOf(3), 0L);
        refused("account -1", x, BOUNDS, () -> x.netOf(-1));
        refused("account 4", x, BOUNDS, () -> x.netOf(4));
        refused("account MAX", x, BOUNDS, () -> x.netOf(MAX));
        x.removePayment(0);
        x.removePayment(0);
        is("cut 0", x.netOf(1), 0L);
    }

    private static void promise20() {
        LedgerStream x = new LedgerStream();
        is("none", x.accounts(), 0);
        x.openAccount(3, 5);
        is("one", x.accounts(), 1);
        is("four", usual().accounts(), 4);
    }

    private static void promise21() {
        LedgerStream x = usual();
        is("first day", x.day(), 0);
        closeDays(x, 1);
        is("next day", x.day(), 1);
        closeDays(x, 99);
        is("later day", x.day(), 100);
    }

    private static void promise22() {
        LedgerStream x = usual();
        x.setLimit(0, 1000);
        x.hold(1, 0, 1, 10, 0);
        is("balance", x.balance(0), 1000L);
        x.withdraw(2, 0, 1500);
        is("negative", x.balance(0), -500L);
        is("none", x.balance(1), 0L);
        refused("account -1", x, BOUNDS, () -> x.balance(-1));
        refused("account 4", x, BOUNDS, () -> x.balance(4));
        refused("account MIN", x, BOUNDS, () -> x.balance(MIN));
        refused("account MAX", x, BOUNDS, () -> x.balance(MAX));
        for (int key = 10; key < 150; key++) {
            x.deposit(key, 2, 1000000);
        }
        is("great", x.balance(2), 140001000L);
    }

    private static void promise23() {
        LedgerStream x = usual();
        x.setLimit(0, 77);
        x.hold(1, 0, 1, 10, 0);
        x.hold(2, 0, 1, 20, 0);
        x.hold(3, 2, 0, 500, 0);
        is("available", x.available(0), 1047L);
        is("of another payer", x.available(2), 500L);
        x.addPayment(0, 1, 900);
        is("the batch does not count", x.available(0), 1047L);
        x.release(0);
        is("released", x.available(0), 1057L);
        x.capture(4, 1, 5);
        is("captured", x.available(0), 1072L);
        x.closeDay();
        is("expired", x.available(2), 1000L);
        refused("account -1", x, BOUNDS, () -> x.available(-1));
        refused("account 4", x, BOUNDS, () -> x.available(4));
        refused("account MAX", x, BOUNDS, () -> x.available(MAX));
    }

    private static void promise24() {
        LedgerStream x = usual();
        x.setRate(0, 100);
        x.transfer(1, 0, 2, 55);
        x.closeDay();
        x.withdraw(2, 0, 45);
        x.deposit(3, 1, 4);
        x.reverse(4, 2);
        is("payer and payee", x.balanceByReplay(0), 955L);
        is("payee", x.balanceByReplay(2), 1000L);
        is("deposit", x.balanceByReplay(1), 4L);
        is("none", x.balanceByReplay(3), 0L);
        x.transfer(5, 0, 2, 55);
        is("received in its currency", x.balanceByReplay(2), 1005L);
        refused("account -1", x, BOUNDS, () -> x.balanceByReplay(-1));
        refused("account 4", x, BOUNDS, () -> x.balanceByReplay(4));
        refused("account MAX", x, BOUNDS, () -> x.balanceByReplay(MAX));
    }

    private static void promise25() {
        LedgerStream x = usual();
        closeDays(x, 1);
        x.withdraw(1, 0, 100);
        x.transfer(2, 0, 1, 30);
        closeDays(x, 2);
        x.reverse(3, 2);
        is("first day", x.balanceAt(0, 0), 1000L);
        is("second day", x.balanceAt(0, 1), 870L);
        is("a day without transactions", x.balanceAt(0, 2), 870L);
        is("this day", x.balanceAt(0, 3), 970L);
        is("before it took part", x.balanceAt(1, 0), 0L);
        is("took part", x.balanceAt(1, 1), 30L);
        x.openAccount(3, 9);
        is("before it was opened", x.balanceAt(4, 0), 0L);
        refused("day -1", x, ARGUMENT, () -> x.balanceAt(0, -1));
        refused("day 4", x, ARGUMENT, () -> x.balanceAt(0, 4));
        refused("day MIN", x, ARGUMENT, () -> x.balanceAt(0, MIN));
        refused("day MAX", x, ARGUMENT, () -> x.balanceAt(0, MAX));
        refused("account -1", x, BOUNDS, () -> x.balanceAt(-1, 0));
        refused("account 5", x, BOUNDS, () -> x.balanceAt(5, 0));
        refused("account before day", x, BOUNDS, () -> x.balanceAt(5, 4));
        closeDays(x, 1);
        is("the day that was closed", x.balanceAt(0, 4), 970L);
    }

    private static void promise26() {
        LedgerStream x = usual();
        is("outside paid", x.houseBalance(0, false), -1000L);
        is("another outside", x.houseBalance(1, false), -1000L);
        is("no outside", x.houseBalance(2, false), 0L);
        x.withdraw(1, 0, 400);
        is("outside received", x.houseBalance(0, false), -600L);
        x.setRate(1, 300);
        x.transfer(2, 2, 3, 10);
        is("payer's exchange", x.houseBalance(1, true), 10L);
        is("payee's exchange", x.houseBalance(2, true), -3L);
        is("outside as it was", x.houseBalance(1, false), -1000L);
        x.reverse(3, 3);
        is("payee's exchange behind the reversal", x.houseBalance(2, true), 0L);
        is("last currency", x.houseBalance(3, true), 0L);
        refused("currency -1", x, ARGUMENT, () -> x.houseBalance(-1, true));
        refused("currency 4", x, ARGUMENT, () -> x.houseBalance(4, false));
        refused("currency MAX", x, ARGUMENT, () -> x.houseBalance(MAX, true));
        refused("currency MIN", x, ARGUMENT, () -> x.houseBalance(MIN, false));
    }

    private static void promise27() {
        LedgerStream x = usual();
        is("worth", x.worth(0), 1000000L);
        x.setRate(0, 333);
        is("by its rate", x.worth(0), 333000L);
        is("of another currency", x.worth(2), 1000000L);
        x.setLimit(0, 50);
        x.withdraw(1, 0, 1010);
        is("negative", x.worth(0), -3330L);
        is("none", x.worth(3), 0L);
        for (int key = 10; key < 30; key++) {
            x.deposit(key, 2, 1000000);
        }
        is("more than an int", x.worth(2), 20001000000L);
        refused("account -1", x, BOUNDS, () -> x.worth(-1));
        refused("account 4", x, BOUNDS, () -> x.worth(4));
        refused("account MAX", x, BOUNDS, () -> x.worth(MAX));
    }

    private static void promise28() {
        LedgerStream x = usual();
        is("two", x.transactions(), 2);
        x.hold(1, 0, 1, 5, 0);
        is("no hold", x.transactions(), 2);
        x.capture(2, 0, 5);
        is("a capture", x.transactions(), 3);
        x.reverse(3, 2);
        is("a reversal", x.transactions(), 4);
        x.addPayment(0, 1, 5);
        x.addPayment(0, 1, 5);
        x.settle(4);
        is("two of the batch", x.transactions(), 6);
    }

    private static void promise29() {
        LedgerStream x = usual();
        x.withdraw(1, 0, 5);
        x.transfer(2, 0, 1, 5);
        x.hold(3, 0, 1, 5, 0);
        x.capture(4, 0, 5);
        x.addPayment(0, 1, 5);
        x.settle(5);
        x.reverse(6, 3);
        String due = "ddwtcbr";
        for (int i = 0; i < due.length(); i++) {
            is("kindOf", x.kindOf(i), due.charAt(i));
        }
        refused("transaction -1", x, BOUNDS, () -> x.kindOf(-1));
        refused("transaction 7", x, BOUNDS, () -> x.kindOf(7));
        refused("transaction MAX", x, BOUNDS, () -> x.kindOf(MAX));
    }

    private static void promise30() {
        LedgerStream x = usual();
        x.withdraw(1, 2, 5);
        x.transfer(2, 0, 1, 5);
        refused("a deposit", x, MISSING, () -> x.payerOf(0));
        is("a withdrawal", x.payerOf(2), 2);
        is("a transfer", x.payerOf(3), 0);
        x.reverse(3, 2);
        refused("a withdrawal's reversal", x, MISSING, () -> x.payerOf(4));
        refused("transaction -1", x, BOUNDS, () -> x.payerOf(-1));
        refused("transaction 5", x, BOUNDS, () -> x.payerOf(5));
        refused("transaction MIN", x, BOUNDS, () -> x.payerOf(MIN));
    }

    private static void promise31() {
        LedgerStream x = usual();
        x.withdraw(1, 2, 5);
        x.transfer(2, 0, 1, 5);
        is("a deposit", x.payeeOf(1), 2);
        refused("a withdrawal", x, MISSING, () -> x.payeeOf(2));
        is("a transfer", x.payeeOf(3), 1);
        x.setLimit(2, 5);
        x.reverse(3, 1);
        refused("a deposit's reversal", x, MISSING, () -> x.payeeOf(4));
        refused("transaction -1", x, BOUNDS, () -> x.payeeOf(-1));
        refused("transaction 5", x, BOUNDS, () -> x.payeeOf(5));
        refused("transaction MIN", x, BOUNDS, () -> x.payeeOf(MIN));
    }

    private static void promise32() {
        LedgerStream x = usual();
        x.setRate(0, 200);
        x.transfer(1, 0, 2, 14);
        x.reverse(2, 2);
        is("a deposit", x.paidOf(0), 1000);
        is("a transfer", x.paidOf(2), 14);
        is("a reversal", x.paidOf(3), 2);
        refused("transaction -1", x, BOUNDS, () -> x.paidOf(-1));
        refused("transaction 4", x, BOUNDS, () -> x.paidOf(4));
        refused("transaction MAX", x, BOUNDS, () -> x.paidOf(MAX));
    }

    private static void promise33() {
        LedgerStream x = usual();
        x.setRate(0, 200);
        x.transfer(1, 0, 2, 14);
        x.reverse(2, 2);
        is("a deposit", x.receivedOf(0), 1000);
        is("a transfer", x.receivedOf(2), 2);
        is("a reversal", x.receivedOf(3), 14);
        x.setLimit(2, 1000000);
        x.setRate(2, 100);
        x.transfer(3, 2, 3, 1000000);
        is("the greatest", x.receivedOf(4), 10000000);
        is("its reversal", x.paidOf(x.reverse(4, 4)), 10000000);
        refused("transaction -1", x, BOUNDS, () -> x.receivedOf(-1));
        refused("transaction 6", x, BOUNDS, () -> x.receivedOf(6));
        refused("transaction MAX", x, BOUNDS, () -> x.receivedOf(MAX));
    }

    private static void promise34() {
        LedgerStream x = usual();
        x.reverse(1, 1);
        x.reverse(2, 0);
        is("second", x.reversalOf(1), 2);
        is("first", x.reversalOf(0), 3);
        refused("a reversal", x, MISSING, () -> x.reversalOf(2));
        x.deposit(3, 0, 5);
        refused("not reversed", x, MISSING, () -> x.reversalOf(4));
        refused("transaction -1", x, BOUNDS, () -> x.reversalOf(-1));
        refused("transaction 5", x, BOUNDS, () -> x.reversalOf(5));
        refused("transaction MAX", x, BOUNDS, () -> x.reversalOf(MAX));
    }

    private static void promise35() {
        LedgerStream x = usual();
        for (int key = 1; key <= 4; key++) {
            x.hold(key, 0, 1, 5, key == 4 ? 1 : 0);
        }
        x.capture(5, 0, 5);
        x.release(1);
        x.closeDay();
        String due = "crxa";
        for (int hold = 0; hold < due.length(); hold++) {
            is("stateOf", x.stateOf(hold), due.charAt(hold));
        }
        refused("hold -1", x, BOUNDS, () -> x.stateOf(-1));
        refused("hold 4", x, BOUNDS, () -> x.stateOf(4));
        refused("hold MAX", x, BOUNDS, () -> x.stateOf(MAX));
    }

    private static void promise36() {
        LedgerStream x = usual();
        closeDays(x, 7);
        x.hold(1, 0, 1, 5, 0);
        x.hold(2, 0, 1, 5, 20);
        is("this day", x.lastDayOf(0), 7);
        is("in 20 days", x.lastDayOf(1), 27);
        x.closeDay();
        x.release(1);
        is("expired", x.lastDayOf(0), 7);
        is("released", x.lastDayOf(1), 27);
        refused("hold -1", x, BOUNDS, () -> x.lastDayOf(-1));
        refused("hold 2", x, BOUNDS, () -> x.lastDayOf(2));
        refused("hold MIN", x, BOUNDS, () -> x.lastDayOf(MIN));
    }

    private static void promise37() {
        LedgerStream x = usual();
        is("two", x.keys(), 2);
        x.deposit(902, 2, 1000);
        is("repeated", x.keys(), 2);
        refused("refused", x, UNSUPPORTED, () -> x.withdraw(1, 1, 5));
        x.hold(1, 0, 1, 5, 5);
        x.capture(2, 0, 5);
        x.reverse(3, 2);
        x.addPayment(0, 1, 5);
        x.settle(4);
        x.transfer(5, 0, 1, 5);
        x.withdraw(6, 0, 5);
        is("one of each method", x.keys(), 8);
        closeDays(x, 2);
        x.deposit(7, 0, 5);
        is("at the end of the second day", x.keys(), 9);
        closeDays(x, 1);
        is("forgotten", x.keys(), 1);
        closeDays(x, 2);
        is("all forgotten", x.keys(), 0);
        checkMostKeys();
    }

    private static void checkMostKeys() {
        LedgerStream x = usual();
        for (int hold = 0; hold < 30; hold++) {
            x.hold(500 + hold, 2, 3, 1, 20);
        }
        fillJournal(x, 150);
        is("as many as there can be", x.keys(), 180);
        is("the first", x.answerOf(901), 0);
        is("the last", x.answerOf(148), 149);
        is("repeated", x.deposit(148, 0, 1), 149);
    }

    private static void promise38() {
        LedgerStream x = usual();
        is("a deposit's", x.answerOf(902), 1);
        x.addPayment(0, 1, 5);
        x.addPayment(0, 1, 5);
        x.addPayment(0, 1, 5);
        x.settle(999);
        is("a settlement's", x.answerOf(999), 3);
        x.hold(1, 0, 1, 5, 5);
        is("a hold's", x.answerOf(1), 0);
        refused("not used", x, MISSING, () -> x.answerOf(2));
        refused("key 0", x, MISSING, () -> x.answerOf(0));
        refused("key 1000", x, MISSING, () -> x.answerOf(1000));
        refused("key MIN", x, MISSING, () -> x.answerOf(MIN));
        refused("key MAX", x, MISSING, () -> x.answerOf(MAX));
        closeDays(x, 2);
        is("on the second day", x.answerOf(902), 1);
        closeDays(x, 1);
        refused("forgotten", x, MISSING, () -> x.answerOf(902));
        x.deposit(902, 0, 7);
        is("used again", x.answerOf(902), 5);
    }

    private static void promise39() {
        LedgerStream x = usual();
        x.setRate(0, 300);
        x.setRate(1, 700);
        x.transfer(1, 0, 2, 100);
        is("a transfer", x.isBalanced(), true);
        x.setRate(2, 110);
        x.hold(2, 2, 3, 77, 1);
        x.capture(3, 0, 33);
        is("a capture", x.isBalanced(), true);
        x.addPayment(3, 0, 13);
        x.addPayment(0, 2, 100);
        x.settle(4);
        is("a settlement", x.isBalanced(), true);
        x.reverse(5, 2);
        x.withdraw(6, 2, 5);
        is("a reversal and a withdrawal", x.isBalanced(), true);
    }

    private static void promise40() {
        LedgerStream x = usual();
        is("none", x.reversedShare(), 0.0f);
        x.reverse(1, 0);
        is("one in three", x.reversedShare(), 1.0f / 3.0f);
        x.reverse(2, 1);
        is("two in four", x.reversedShare(), 0.5f);
        for (int key = 3; key < 6; key++) {
            x.deposit(key, 0, 5);
        }
        is("two in seven", x.reversedShare(), 2.0f / 7.0f);
        LedgerStream empty = new LedgerStream();
        refused("no transactions", empty, ARITHMETIC, empty::reversedShare);
        empty.openAccount(0, 5);
        empty.deposit(1, 0, 5);
        is("none of one", empty.reversedShare(), 0.0f);
    }

    private static void promise41() {
        LedgerStream x = usual();
        is("two of 1000", x.meanPaid(), 1000.0);
        x.setRate(0, 200);
        x.transfer(1, 0, 2, 10);
        is("paid, not received", x.meanPaid(), 2010.0 / 3.0);
        x.reverse(2, 2);
        is("a reversal", x.meanPaid(), 2012.0 / 4.0);
        for (int key = 3; key < 100; key++) {
            x.deposit(key, 0, 999999);
        }
        is("a great sum", x.meanPaid(), (2012.0 + 97.0 * 999999.0) / 101.0);
        LedgerStream empty = new LedgerStream();
        refused("no transactions", empty, ARITHMETIC, empty::meanPaid);
        empty.openAccount(0, 5);
        empty.deposit(1, 0, 5);
        is("one of 5", empty.meanPaid(), 5.0);
    }
}
