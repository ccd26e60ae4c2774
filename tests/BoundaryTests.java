/**
 * The lines of the document's promises, each named by a test of its own that looks at its boundaries: the
 * least and the greatest number and those just beside them, the empty and the full, the ends of int.
 */
public final class BoundaryTests {
    private static final Document DOCUMENT = new Document();
    private static final String RANGES = "Throws `IllegalArgumentException`";
    private static final String NO_SUCH = "Throws `IndexOutOfBoundsException`";
    private static final String ABSENT = "Throws `NoSuchElementException`";
    private static final String UNFIT = "Throws `UnsupportedOperationException`";
    private static final String FULL = "Throws `IllegalStateException`";
    private static final String NONE = "Throws `ArithmeticException`";

    private BoundaryTests() {
    }

    public static void main(String[] args) {
        accountsAndRates();
        money();
        batchAndDays();
        questionsAboutAccounts();
        questionsAboutTransactions();
        questionsAboutHoldsAndKeys();
        accountsOfTheWhole();
        Run.end(DOCUMENT.left(true));
    }

    private static void says(int promise, String... beginnings) {
        DOCUMENT.says("Promise " + promise, beginnings);
    }

    private static Run fullJournal() {
        return Run.usual().fillJournal(0, 150);
    }

    /** Account 0 can pay a million; 1 is of its currency, 2 of another. */
    private static Run rich() {
        return new Run("openAccount(0, 1000000)", "openAccount(0, 0)", "openAccount(1, 0)");
    }

    /** A key in range that is remembered, for calls that are given with # for their key. */
    private static void keyOf(Run run, String call) {
        run.range(call, 1, 999, Run.ARGUMENT);
        for (int key : new int[] {1, 999}) {
            String other = "deposit(" + key + ", 0, 31)";
            String asked = call.replace("#", Integer.toString(key));
            Run taken = run.copy().after(other).refuses(asked, Run.ARGUMENT);
            taken.after(2, "closeDay()").refuses(asked, Run.ARGUMENT).same(other, run.copy().transactions());
            taken.after("closeDay()").refuses("answerOf(" + key + ")", Run.MISSING);
        }
    }

    // ---- accounts and rates

    private static void accountsAndRates() {
        says(1, "Creates a ledger without accounts, on day 0.");
        new Run().is("accounts()", 0).is("day()", 0).is("transactions()", 0).is("batchSize()", 0).is("keys()", 0)
            .refuses("balance(0)", Run.BOUNDS).refuses("kindOf(0)", Run.BOUNDS).refuses("stateOf(0)", Run.BOUNDS)
            .refuses("answerOf(1)", Run.MISSING).is("isBalanced()", true);
        openAccount();
        setLimit();
        setRate();
    }

    private static void openAccount() {
        says(2, "Opens an account.", "- `currency`: the currency, 0 to 3", "- `limit`: the limit, 0 to 1000000",
            RANGES);
        new Run().range("openAccount(#, 0)", 0, 3, Run.ARGUMENT).range("openAccount(3, #)", 0, 1000000, Run.ARGUMENT);
        new Run().refuses("openAccount(-1, -1)", Run.ARGUMENT).refuses("openAccount(4, 1000001)", Run.ARGUMENT)
            .is("accounts()", 0);
        says(2, "Returns the number of the account.");
        Run ten = new Run();
        for (int account = 0; account < 10; account++) {
            ten.is("openAccount(" + account % 4 + ", 1000000)", account);
        }
        says(2, FULL);
        ten.refuses("openAccount(0, 0)", Run.STATE).refuses("openAccount(3, 1000000)", Run.STATE);
        ten.after("closeDay()").refuses("openAccount(0, 0)", Run.STATE).is("accounts()", 10);
    }

    private static void setLimit() {
        says(3, "Sets the limit of an account.", "- `account`", NO_SUCH);
        new Run().refuses("setLimit(0, 0)", Run.BOUNDS);
        Run.usual().indexes("setLimit(#, 7)", 4);
        says(3, "- `limit`: the limit, 0 to 1000000", RANGES);
        Run.usual().range("setLimit(0, #)", 0, 1000000, Run.ARGUMENT).range("setLimit(3, #)", 0, 1000000, Run.ARGUMENT);
        says(3, "Returns the limit before.");
        Run run = Run.usual().is("setLimit(0, 1000000)", 0).is("setLimit(0, 1)", 1000000).is("setLimit(0, 0)", 1);
        run.is("setLimit(1, 3)", 0).is("setLimit(0, 2)", 0).is("setLimit(1, 3)", 3).is("available(1)", 3);
        says(3, UNFIT);
        run.after("withdraw(1, 0, 1001)").refuses("setLimit(0, 0)", Run.UNSUPPORTED).is("setLimit(0, 1)", 2);
        Run held = Run.usual().after("setLimit(0, 9)", "hold(1, 0, 1, 1004, 0)").is("available(0)", 5);
        held.refuses("setLimit(0, 3)", Run.UNSUPPORTED).is("setLimit(0, 4)", 9).is("available(0)", 0);
        held.refuses("setLimit(0, 0)", Run.UNSUPPORTED).after("closeDay()").is("setLimit(0, 0)", 4);
        rich().after("withdraw(1, 0, 1000000)").refuses("setLimit(0, 999999)", Run.UNSUPPORTED)
            .refuses("setLimit(0, 0)", Run.UNSUPPORTED).is("setLimit(0, 1000000)", 1000000);
    }

    private static void setRate() {
        says(4, "Sets the rate of a currency.", "- `currency`: the currency, 0 to 3",
            "- `rate`: the rate, 100 to 1000");
        says(4, RANGES);
        new Run().range("setRate(#, 500)", 0, 3, Run.ARGUMENT);
        for (int currency = 0; currency < 4; currency++) {
            new Run().range("setRate(" + currency + ", #)", 100, 1000, Run.ARGUMENT)
                .refuses("setRate(" + currency + ", 0)", Run.ARGUMENT);
        }
        new Run().refuses("setRate(4, 99)", Run.ARGUMENT).refuses("setRate(-1, 1001)", Run.ARGUMENT);
        says(4, "Returns the rate before.");
        new Run().is("setRate(0, 100)", 1000).is("setRate(0, 1000)", 100).is("setRate(0, 1000)", 1000)
            .is("setRate(3, 101)", 1000).is("setRate(3, 100)", 101).is("setRate(0, 100)", 1000);
    }

    // ---- money

    private static void money() {
        deposit();
        withdraw();
        transfer();
        hold();
        holdThatIsRefused();
        capture();
        captureThatIsRefused();
        release();
        reverse();
        reverseThatIsRefused();
    }

    private static void deposit() {
        says(5, "Makes a deposit into an account.", "- `key`: the key, 1 to 999", RANGES);
        keyOf(Run.usual(), "deposit(#, 0, 5)");
        Run.usual().after("deposit(1, 0, 5)").refuses("deposit(1, 0, 6)", Run.ARGUMENT)
            .refuses("deposit(1, 1, 5)", Run.ARGUMENT).refuses("withdraw(1, 0, 5)", Run.ARGUMENT);
        says(5, "- `account`", NO_SUCH);
        new Run().refuses("deposit(1, 0, 5)", Run.BOUNDS);
        Run.usual().indexes("deposit(1, #, 5)", 4);
        says(5, "- `amount`: the paid amount, 1 to 1000000");
        Run.usual().range("deposit(1, 0, #)", 1, 1000000, Run.ARGUMENT);
        says(5, "Returns the number of the transaction.", FULL);
        new Run("openAccount(0, 0)").is("deposit(1, 0, 1)", 0).is("deposit(2, 0, 1000000)", 1);
        Run.usual().fillJournal(0, 149).is("deposit(999, 0, 5)", 149).refuses("deposit(998, 0, 5)", Run.STATE)
            .same("deposit(999, 0, 5)", 149).after(3, "closeDay()").refuses("deposit(999, 0, 5)", Run.STATE);
    }

    private static void withdraw() {
        says(6, "Makes a withdrawal from an account.", "- `key`: the key, 1 to 999", RANGES);
        keyOf(Run.usual(), "withdraw(#, 0, 5)");
        Run.usual().after("withdraw(1, 0, 5)").refuses("withdraw(1, 0, 6)", Run.ARGUMENT)
            .refuses("withdraw(1, 2, 5)", Run.ARGUMENT).refuses("deposit(1, 0, 5)", Run.ARGUMENT);
        says(6, "- `account`", NO_SUCH);
        new Run().refuses("withdraw(1, 0, 5)", Run.BOUNDS);
        Run.usual().indexes("withdraw(1, #, 5)", 4);
        says(6, "- `amount`: the paid amount, 1 to 1000000");
        rich().range("withdraw(1, 0, #)", 1, 1000000, Run.ARGUMENT);
        says(6, UNFIT);
        Run.usual().refuses("withdraw(1, 0, 1001)", Run.UNSUPPORTED).refuses("withdraw(1, 1, 1)", Run.UNSUPPORTED)
            .refuses("withdraw(1, 0, 1000000)", Run.UNSUPPORTED).is("withdraw(1, 0, 1000)", 2)
            .refuses("withdraw(2, 0, 1)", Run.UNSUPPORTED).after("setLimit(0, 1)").is("withdraw(2, 0, 1)", 3);
        rich().after("deposit(1, 0, 1)").is("withdraw(2, 0, 1000000)", 1).is("withdraw(3, 0, 1)", 2)
            .refuses("withdraw(4, 0, 1)", Run.UNSUPPORTED).is("balance(0)", -1000000);
        says(6, "Returns the number of the transaction.", FULL);
        rich().is("withdraw(1, 0, 1)", 0).is("withdraw(2, 0, 1)", 1);
        Run.usual().fillJournal(0, 149).is("withdraw(999, 0, 5)", 149).refuses("withdraw(998, 0, 5)", Run.STATE);
    }

    private static void transfer() {
        says(7, "Makes a transfer from an account to another one, by the rates of this time.");
        says(7, "- `key`: the key, 1 to 999", RANGES);
        keyOf(Run.usual(), "transfer(#, 0, 1, 5)");
        Run.usual().after("transfer(1, 0, 1, 5)").refuses("transfer(1, 0, 1, 6)", Run.ARGUMENT)
            .refuses("transfer(1, 0, 2, 5)", Run.ARGUMENT).refuses("transfer(1, 2, 1, 5)", Run.ARGUMENT);
        Run.usual().refuses("transfer(1, 0, 0, 5)", Run.ARGUMENT).refuses("transfer(1, 3, 3, 5)", Run.ARGUMENT)
            .refuses("transfer(1, 4, 4, 5)", Run.ARGUMENT).refuses("transfer(1, -1, -1, 5)", Run.ARGUMENT)
            .refuses("transfer(1, MIN, MIN, 5)", Run.ARGUMENT).refuses("transfer(1, MAX, MAX, 5)", Run.ARGUMENT);
        says(7, "- `payer`", "- `payee`", NO_SUCH);
        new Run().refuses("transfer(1, 0, 1, 5)", Run.BOUNDS);
        new Run("openAccount(0, 5)").refuses("transfer(1, 0, 1, 5)", Run.BOUNDS)
            .refuses("transfer(1, 1, 0, 5)", Run.BOUNDS);
        Run.usual().indexes("transfer(1, #, 1, 5)", 4).indexes("transfer(1, 0, #, 5)", 4)
            .refuses("transfer(1, 4, 5, 5)", Run.BOUNDS).refuses("transfer(1, -1, 4, 5)", Run.BOUNDS);
        says(7, "- `amount`: the paid amount, 1 to 1000000");
        rich().range("transfer(1, 0, 1, #)", 1, 1000000, Run.ARGUMENT);
        rich().range("transfer(1, 0, 2, #)", 1, 1000000, Run.ARGUMENT);
        says(7, UNFIT);
        Run.usual().refuses("transfer(1, 0, 1, 1001)", Run.UNSUPPORTED).is("transfer(1, 0, 1, 1000)", 2)
            .refuses("transfer(2, 0, 1, 1)", Run.UNSUPPORTED).is("transfer(2, 1, 0, 1000)", 3);
        rich().after("setRate(0, 100)").refuses("transfer(1, 0, 2, 9)", Run.UNSUPPORTED).is("transfer(1, 0, 2, 10)", 0)
            .is("transfer(2, 0, 1, 1)", 1);
        says(7, "Returns the number of the transaction.", FULL);
        rich().is("transfer(1, 0, 1, 5)", 0).is("transfer(2, 1, 0, 5)", 1);
        Run.usual().fillJournal(0, 149).is("transfer(999, 0, 1, 5)", 149).refuses("transfer(998, 0, 1, 5)", Run.STATE);
    }

    private static void hold() {
        says(8, "Makes a hold.", "- `key`: the key, 1 to 999", RANGES);
        keyOf(Run.usual(), "hold(#, 0, 1, 5, 0)");
        Run.usual().after("hold(1, 0, 1, 5, 9)").refuses("hold(1, 0, 1, 5, 8)", Run.ARGUMENT)
            .refuses("hold(1, 0, 1, 6, 9)", Run.ARGUMENT).refuses("hold(1, 0, 2, 5, 9)", Run.ARGUMENT)
            .refuses("hold(1, 2, 1, 5, 9)", Run.ARGUMENT).same("hold(1, 0, 1, 5, 9)", 0);
        Run.usual().refuses("hold(1, 0, 0, 5, 0)", Run.ARGUMENT).refuses("hold(1, 4, 4, 5, 0)", Run.ARGUMENT)
            .refuses("hold(1, MIN, MIN, 5, 0)", Run.ARGUMENT).refuses("hold(1, MAX, MAX, 5, 0)", Run.ARGUMENT);
        says(8, "- `payer`", "- `payee`", NO_SUCH);
        new Run().refuses("hold(1, 0, 1, 5, 0)", Run.BOUNDS);
        Run.usual().indexes("hold(1, #, 1, 5, 0)", 4).indexes("hold(1, 0, #, 5, 0)", 4)
            .refuses("hold(1, 4, 5, 5, 0)", Run.BOUNDS);
        says(8, "- `amount`: the amount of the hold, 1 to 1000000");
        rich().range("hold(1, 0, 1, #, 0)", 1, 1000000, Run.ARGUMENT);
        says(8, "- `days`: how many days after this day its last day is, 0 to 20");
        Run.usual().range("hold(1, 0, 1, 5, #)", 0, 20, Run.ARGUMENT);
        Run.usual().after(7, "closeDay()").range("hold(1, 0, 1, 5, #)", 0, 20, Run.ARGUMENT)
            .after("hold(1, 0, 1, 5, 0)", "hold(2, 0, 1, 5, 20)").is("lastDayOf(0)", 7).is("lastDayOf(1)", 27);
    }

    private static void holdThatIsRefused() {
        says(8, UNFIT);
        Run.usual().refuses("hold(1, 0, 1, 1001, 0)", Run.UNSUPPORTED).refuses("hold(1, 1, 0, 1, 0)", Run.UNSUPPORTED)
            .is("hold(1, 0, 1, 1000, 0)", 0).refuses("hold(2, 0, 1, 1, 0)", Run.UNSUPPORTED)
            .after("setLimit(0, 1)").is("hold(2, 0, 1, 1, 0)", 1).refuses("hold(3, 0, 1, 1, 0)", Run.UNSUPPORTED);
        Run.usual().after("setRate(0, 100)").is("hold(1, 0, 2, 1, 0)", 0);
        says(8, "Returns the number of the hold.", FULL);
        Run run = Run.usual();
        for (int hold = 0; hold < 30; hold++) {
            run.is("hold(" + (899 - hold) + ", 0, 1, 5, " + hold % 21 + ")", hold);
        }
        run.refuses("hold(1, 0, 1, 5, 0)", Run.STATE).same("hold(870, 0, 1, 5, 8)", 29);
        run.after("release(5)").after(3, "closeDay()").refuses("hold(870, 0, 1, 5, 8)", Run.STATE);
        fullJournal().is("hold(999, 0, 1, 5, 0)", 0);
    }

    private static void capture() {
        says(9, "Captures a hold with an amount.", "- `key`: the key, 1 to 999", RANGES);
        Run held = rich().after("hold(990, 0, 1, 50, 9)", "hold(991, 0, 1, 50, 9)", "hold(992, 0, 2, 50, 9)");
        keyOf(held, "capture(#, 0, 5)");
        held.copy().after("capture(1, 0, 5)").refuses("capture(1, 0, 6)", Run.ARGUMENT)
            .refuses("capture(1, 1, 5)", Run.ARGUMENT).same("capture(1, 0, 5)", 0);
        says(9, "- `hold`", NO_SUCH);
        rich().refuses("capture(1, 0, 5)", Run.BOUNDS);
        held.indexes("capture(1, #, 5)", 3);
        says(9, "- `amount`: the paid amount, 1 to 1000000");
        rich().after("hold(990, 0, 1, 1000000, 0)").range("capture(1, 0, #)", 1, 1000000, Run.ARGUMENT);
        says(9, ABSENT);
        Run run = held.copy().after("capture(1, 0, 50)").refuses("capture(2, 0, 50)", Run.MISSING);
        run.after("release(1)").refuses("capture(2, 1, 50)", Run.MISSING).after(9, "closeDay()");
        run.copy().is("capture(2, 2, 50)", 1);
        run.after("closeDay()").refuses("capture(2, 2, 50)", Run.MISSING);
    }

    private static void captureThatIsRefused() {
        says(9, UNFIT);
        Run held = rich().after("hold(990, 0, 1, 50, 9)", "hold(992, 0, 2, 50, 9)", "setRate(0, 100)");
        held.refuses("capture(1, 0, 51)", Run.UNSUPPORTED).refuses("capture(1, 0, 1000000)", Run.UNSUPPORTED);
        held.refuses("capture(1, 1, 9)", Run.UNSUPPORTED).refuses("capture(1, 1, 51)", Run.UNSUPPORTED);
        held.copy().is("capture(1, 0, 50)", 0).is("available(0)", 999900);
        held.copy().is("capture(1, 1, 10)", 0).is("receivedOf(0)", 1);
        held.copy().is("capture(1, 0, 1)", 0).is("available(0)", 999949);
        says(9, "Returns the number of the transaction.", FULL);
        held.is("capture(1, 0, 1)", 0).is("capture(2, 1, 50)", 1).is("receivedOf(1)", 5);
        Run run = Run.usual().after("hold(990, 0, 1, 5, 0)", "hold(991, 0, 1, 5, 0)").fillJournal(0, 149);
        run.is("capture(999, 0, 5)", 149).refuses("capture(998, 1, 5)", Run.STATE);
        run.is("stateOf(1)", 'a').same("capture(999, 0, 5)", 149);
    }

    private static void release() {
        says(10, "Releases a hold.", "- `hold`", NO_SUCH);
        rich().refuses("release(0)", Run.BOUNDS);
        Run held = rich().after("hold(1, 0, 1, 1, 3)", "hold(2, 0, 1, 499999, 3)", "hold(3, 0, 1, 500000, 3)");
        held.indexes("release(#)", 3).is("available(0)", 0);
        says(10, "Returns the amount of the hold.");
        held.copy().is("release(0)", 1).is("release(2)", 500000).is("release(1)", 499999).is("available(0)", 1000000);
        rich().after("hold(1, 0, 1, 1000000, 0)").is("release(0)", 1000000);
        says(10, ABSENT);
        held.after("release(0)").refuses("release(0)", Run.MISSING).after("capture(4, 1, 1)");
        held.refuses("release(1)", Run.MISSING).after(3, "closeDay()").copy().is("release(2)", 500000);
        held.after("closeDay()").refuses("release(2)", Run.MISSING);
    }

    private static void reverse() {
        says(11, "Reverses a transaction.", "- `key`: the key, 1 to 999", RANGES);
        keyOf(Run.usual(), "reverse(#, 0)");
        Run.usual().after("reverse(1, 0)").refuses("reverse(1, 1)", Run.ARGUMENT)
            .refuses("reverse(1, 2)", Run.ARGUMENT);
        says(11, "- `transaction`", NO_SUCH);
        rich().refuses("reverse(1, 0)", Run.BOUNDS);
        Run.usual().indexes("reverse(1, #)", 2);
        fullJournal().refuses("reverse(999, 150)", Run.BOUNDS).refuses("reverse(999, 149)", Run.STATE);
        says(11, ABSENT);
        Run.usual().after("reverse(1, 0)").refuses("reverse(2, 0)", Run.MISSING).refuses("reverse(2, 2)", Run.MISSING)
            .after(3, "closeDay()").refuses("reverse(1, 0)", Run.MISSING);
        says(11, "Returns the number of the reversal.");
        Run.usual().is("reverse(1, 1)", 2).is("reverse(2, 0)", 3).is("reversalOf(0)", 3).is("reversalOf(1)", 2);
    }

    private static void reverseThatIsRefused() {
        says(11, UNFIT);
        Run spent = Run.usual().after("withdraw(1, 0, 1)").refuses("reverse(2, 0)", Run.UNSUPPORTED);
        spent.copy().after("setLimit(0, 1)").is("reverse(2, 0)", 3).is("available(0)", 0).is("balance(0)", -1);
        spent.is("reverse(2, 2)", 3).is("reverse(3, 0)", 4).is("balance(0)", 0);
        Run.usual().is("reverse(1, 0)", 2).is("available(0)", 0);
        Run.usual().after("hold(1, 0, 1, 1, 0)").refuses("reverse(2, 0)", Run.UNSUPPORTED).after("closeDay()")
            .is("reverse(2, 0)", 2);
        Run great = rich().after("setRate(1, 100)", "transfer(1, 0, 2, 1000000)", "withdraw(2, 2, 1)");
        great.refuses("reverse(3, 0)", Run.UNSUPPORTED).after("deposit(4, 2, 1)").is("reverse(3, 0)", 3);
        great.is("paidOf(3)", 10000000).is("available(2)", 0).is("available(0)", 1000000);
        Run payee = Run.usual().after("transfer(1, 0, 1, 5)", "withdraw(2, 1, 1)");
        payee.refuses("reverse(3, 2)", Run.UNSUPPORTED).after("reverse(3, 3)").is("reverse(4, 2)", 5);
        // The outside pays whatever it has: a withdrawal is reversed though the outside is at its least.
        Run outside = rich().after("withdraw(1, 0, 1000000)", "deposit(2, 1, 1000000)").is("houseBalance(0, false)", 0);
        outside.is("reverse(3, 0)", 2).is("houseBalance(0, false)", -1000000);
        says(11, FULL);
        Run.usual().fillJournal(0, 149).is("reverse(999, 1)", 149).refuses("reverse(998, 2)", Run.STATE)
            .same("reverse(999, 1)", 149);
    }

    // ---- the batch and the days

    private static void batchAndDays() {
        addPayment();
        removePayment();
        settle();
        settleThatIsRefused();
        closeDay();
        sizeAndCut();
        netOf();
    }

    private static void addPayment() {
        says(12, "Adds a payment at the end of the batch.", "- `amount`: the paid amount, 1 to 1000000", RANGES);
        Run.usual().range("addPayment(0, 1, #)", 1, 1000000, Run.ARGUMENT);
        Run.usual().refuses("addPayment(0, 0, 5)", Run.ARGUMENT).refuses("addPayment(4, 4, 5)", Run.ARGUMENT)
            .refuses("addPayment(-1, -1, 5)", Run.ARGUMENT).refuses("addPayment(MAX, MAX, 5)", Run.ARGUMENT);
        says(12, "- `payer`", "- `payee`", NO_SUCH);
        new Run().refuses("addPayment(0, 1, 5)", Run.BOUNDS);
        Run.usual().indexes("addPayment(#, 1, 5)", 4).indexes("addPayment(0, #, 5)", 4)
            .refuses("addPayment(4, 5, 5)", Run.BOUNDS);
        says(12, "Returns the size of the batch after the call.", FULL);
        Run run = Run.usual().after("setRate(0, 100)");
        for (int size = 1; size <= 12; size++) {
            run.is("addPayment(0, 2, " + size + ")", size);
        }
        run.refuses("addPayment(0, 1, 5)", Run.STATE).refuses("addPayment(1, 0, 1000000)", Run.STATE);
        run.is("removePayment(0)", 1).is("addPayment(1, 0, 1000000)", 12).refuses("addPayment(0, 1, 5)", Run.STATE);
        fullJournal().is("addPayment(0, 1, 5)", 1).is("cut()", 0);
    }

    private static void removePayment() {
        says(13, "- `index`", "Removes a payment from the batch; the indexes of those behind it decrease by 1.",
            NO_SUCH);
        Run.usual().refuses("removePayment(0)", Run.BOUNDS);
        Run run = Run.usual().after("addPayment(0, 1, 1)").indexes("removePayment(#)", 1);
        run.after("addPayment(1, 2, 2)", "addPayment(2, 3, 3)").indexes("removePayment(#)", 3);
        says(13, "Returns its paid amount.");
        run.copy().is("removePayment(0)", 1).is("removePayment(0)", 2).is("removePayment(0)", 3).is("batchSize()", 0);
        run.copy().is("removePayment(1)", 2).is("removePayment(1)", 3).is("removePayment(0)", 1);
        run.copy().is("removePayment(2)", 3).refuses("removePayment(2)", Run.BOUNDS).is("removePayment(1)", 2);
        Run.usual().after("addPayment(0, 1, 1000000)").is("removePayment(0)", 1000000);
        run.after("removePayment(0)", "setLimit(1, 2)").is("settle(1)", 2).is("payerOf(2)", 1).is("payeeOf(2)", 2);
        run.is("payerOf(3)", 2).is("payeeOf(3)", 3);
    }

    private static void settle() {
        says(14, "- `key`: the key, 1 to 999", RANGES);
        keyOf(rich().after("addPayment(0, 1, 5)"), "settle(#)");
        says(14, "Settles as many payments of the batch as its cut is, from the first one on");
        Run run = Run.usual().after("addPayment(0, 1, 400)", "addPayment(0, 2, 600)", "addPayment(0, 1, 1)");
        run.after("addPayment(2, 3, 1601)").is("cut()", 2).is("settle(1)", 2).is("transactions()", 4);
        run.is("kindOf(2)", 'b').is("kindOf(3)", 'b').is("paidOf(2)", 400).is("paidOf(3)", 600).is("payeeOf(3)", 2);
        says(14, "The others stay in the batch, with indexes from 0.");
        run.copy().is("batchSize()", 2).is("removePayment(0)", 1).is("removePayment(0)", 1601);
        run.refuses("removePayment(2)", Run.BOUNDS).is("removePayment(1)", 1601).is("batchSize()", 1);
        says(14, "Returns the number of payments that were settled.");
        for (int size = 1; size <= 12; size++) {
            Run.usual().after(size, "addPayment(0, 1, 83)").is("settle(1)", size).is("batchSize()", 0)
                .is("transactions()", 2 + size).is("balance(1)", 83 * size).is("balance(0)", 1000 - 83 * size);
        }
        rich().after(12, "addPayment(0, 1, 100000)").is("settle(1)", 10).is("batchSize()", 2).is("available(0)", 0);
    }

    private static void settleThatIsRefused() {
        says(14, UNFIT);
        Run.usual().refuses("settle(1)", Run.UNSUPPORTED).after("addPayment(0, 1, 1001)")
            .refuses("settle(1)", Run.UNSUPPORTED).refuses("settle(999)", Run.UNSUPPORTED)
            .after("setLimit(0, 1)").is("settle(1)", 1).refuses("settle(2)", Run.UNSUPPORTED).same("settle(1)", 1);
        Run none = rich().after("setRate(0, 100)", "addPayment(0, 2, 9)", "addPayment(0, 1, 9)");
        none.refuses("settle(1)", Run.UNSUPPORTED).after("removePayment(0)").is("settle(1)", 1);
        Run many = Run.usual();
        for (int size = 1; size <= 12; size++) {
            many.after("addPayment(1, 0, " + size + ")").refuses("settle(1)", Run.UNSUPPORTED);
        }
        fullJournal().after(12, "addPayment(0, 1, 1)").refuses("settle(999)", Run.UNSUPPORTED);
        Run.usual().fillJournal(0, 149).after("addPayment(0, 1, 1)", "addPayment(0, 1, 2)").is("settle(999)", 1)
            .refuses("settle(998)", Run.UNSUPPORTED).is("removePayment(0)", 2);
    }

    private static void closeDay() {
        says(15, "Closes the day.", "Returns the number of holds that expired.");
        new Run().is("closeDay()", 0).is("closeDay()", 0).is("day()", 2);
        Run run = rich();
        for (int hold = 0; hold < 30; hold++) {
            run.after("hold(" + (hold + 1) + ", 0, 1, 5, " + hold % 21 + ")");
        }
        run.copy().after("release(0)", "capture(99, 21, 5)").is("closeDay()", 0).is("closeDay()", 2);
        for (int day = 0; day <= 20; day++) {
            run.is("closeDay()", day < 9 ? 2 : 1);
        }
        run.is("closeDay()", 0).is("available(0)", 1000000).is("stateOf(29)", 'x');
        Run all = rich();
        for (int hold = 0; hold < 30; hold++) {
            all.after("hold(" + (hold + 1) + ", 0, 1, 5, 20)");
        }
        all.after(20, "closeDay()").is("available(0)", 999850).is("closeDay()", 30).is("available(0)", 1000000);
    }

    private static void sizeAndCut() {
        says(16, "Returns the size of the batch.", "Returns the number of payments in the batch.");
        Run run = Run.usual().is("batchSize()", 0);
        for (int size = 1; size <= 12; size++) {
            run.after("addPayment(0, 1, 83)").same("batchSize()", size);
        }
        run.refuses("addPayment(0, 1, 83)", Run.STATE).is("batchSize()", 12).after("removePayment(11)");
        run.is("batchSize()", 11);
        says(17, "Returns the cut of the batch, found with sums", "Returns the cut.");
        says(18, "Returns the cut of the batch, found by trying", "Returns the cut.");
        for (String cut : new String[] {"cut()", "cutByTrying()"}) {
            new Run().same(cut, 0);
            Run.usual().same(cut, 0).after(12, "addPayment(0, 1, 83)").same(cut, 12);
            Run.usual().after(12, "addPayment(0, 1, 84)").same(cut, 11);
            Run.usual().after("addPayment(0, 1, 1000)", "addPayment(0, 1, 1)").same(cut, 1);
            Run.usual().after("addPayment(0, 1, 1001)").same(cut, 0).after("addPayment(1, 0, 1)").same(cut, 2);
            Run.usual().after(12, "addPayment(0, 1, 1)").fillJournal(0, 139).same(cut, 11).after("deposit(990, 0, 1)")
                .same(cut, 10);
            Run late = rich().after("setLimit(0, 0)").after(11, "addPayment(0, 1, 1000000)").same(cut, 0);
            late.copy().after("addPayment(1, 0, 1000000)").same(cut, 0);
            Run money = late.copy().after("addPayment(2, 0, 1000000)", "setRate(0, 100)", "setLimit(2, 1000000)");
            money.same(cut, 0).after("deposit(1, 0, 1000000)").same(cut, 12).after("withdraw(2, 0, 1)").same(cut, 0);
        }
    }

    private static void netOf() {
        says(19, "- `account`", NO_SUCH);
        new Run().refuses("netOf(0)", Run.BOUNDS);
        Run.usual().indexes("netOf(#)", 4);
        says(19, "Returns how much the balance of an account would increase", "Returns all that it receives minus all");
        Run.usual().same("netOf(0)", 0).after("addPayment(0, 1, 1001)").same("netOf(0)", 0).same("netOf(1)", 0);
        Run run = Run.usual().after("addPayment(0, 1, 1000)").same("netOf(0)", -1000).same("netOf(1)", 1000);
        run.after("addPayment(0, 1, 1)").same("netOf(0)", -1000).after("addPayment(1, 0, 3)").same("netOf(0)", -998);
        run.same("netOf(1)", 998).same("netOf(2)", 0).after("addPayment(1, 0, 999)").same("netOf(0)", -998);
        Run most = new Run("openAccount(0, 1000000)", "openAccount(1, 0)", "setRate(1, 100)");
        for (int key = 1; key <= 11; key++) {
            most.after("deposit(" + key + ", 0, 1000000)");
        }
        most.after(12, "addPayment(0, 1, 1000000)").same("netOf(1)", 120000000).same("netOf(0)", -12000000);
        most.is("settle(99)", 12).is("balance(1)", 120000000).is("available(0)", 0);
    }

    // ---- questions about accounts

    private static void questionsAboutAccounts() {
        counts();
        balances();
        balanceAt();
        houseBalance();
        worth();
    }

    private static void counts() {
        says(20, "Returns the number of accounts.");
        Run run = new Run();
        for (int account = 0; account < 10; account++) {
            run.same("accounts()", account).after("openAccount(0, 0)");
        }
        run.same("accounts()", 10).refuses("openAccount(0, 0)", Run.STATE).same("accounts()", 10);
        says(21, "Returns the day.");
        new Run().same("day()", 0).after("closeDay()").same("day()", 1).after(509, "closeDay()").is("day()", 510);
    }

    private static void balances() {
        says(22, "Returns the balance of an account.", "- `account`", "Returns the balance.", NO_SUCH);
        new Run().refuses("balance(0)", Run.BOUNDS);
        Run.usual().indexes("balance(#)", 4).is("balance(0)", 1000).is("balance(3)", 0);
        rich().after("withdraw(1, 0, 1000000)").is("balance(0)", -1000000);
        says(23, "Returns the available amount of an account.", "- `account`", "Returns the available amount.",
            NO_SUCH);
        new Run().refuses("available(0)", Run.BOUNDS);
        Run.usual().indexes("available(#)", 4).is("available(0)", 1000).is("available(3)", 0);
        rich().is("available(0)", 1000000).after("withdraw(1, 0, 1000000)").is("available(0)", 0);
        rich().after("deposit(1, 0, 1000000)").is("available(0)", 2000000).after("hold(2, 0, 1, 1000000, 0)")
            .is("available(0)", 1000000).after("hold(3, 0, 1, 1000000, 0)").is("available(0)", 0);
        says(24, "Returns the balance of an account, found by going through the journal.", "- `account`");
        says(24, "Returns the balance.", NO_SUCH);
        new Run().refuses("balanceByReplay(0)", Run.BOUNDS);
        Run.usual().indexes("balanceByReplay(#)", 4).is("balanceByReplay(0)", 1000).is("balanceByReplay(3)", 0);
        rich().after("withdraw(1, 0, 1000000)").is("balanceByReplay(0)", -1000000);
        Run full = new Run("openAccount(0, 0)");
        for (int key = 1; key <= 150; key++) {
            full.after("deposit(" + key + ", 0, 1000000)");
        }
        full.is("balance(0)", 150000000).is("balanceByReplay(0)", 150000000).is("available(0)", 150000000);
        full.is("balanceAt(0, 0)", 150000000).is("houseBalance(0, false)", -150000000).is("worth(0)", 150000000000L);
    }

    private static void balanceAt() {
        says(25, "- `account`", NO_SUCH);
        new Run().refuses("balanceAt(0, 0)", Run.BOUNDS);
        Run.usual().indexes("balanceAt(#, 0)", 4);
        says(25, "- `day`: the day, from 0 up to this day", RANGES);
        Run.usual().same("balanceAt(0, 0)", 1000).refuses("balanceAt(0, 1)", Run.ARGUMENT)
            .refuses("balanceAt(0, -1)", Run.ARGUMENT).refuses("balanceAt(0, MAX)", Run.ARGUMENT)
            .refuses("balanceAt(0, MIN)", Run.ARGUMENT);
        Run.usual().after(5, "closeDay()").range("balanceAt(0, #)", 0, 5, Run.ARGUMENT);
        says(25, "Returns the balance that an account had at the end of a day, or has now");
        Run run = Run.usual().after("closeDay()", "withdraw(1, 0, 100)").is("balanceAt(0, 1)", 900);
        run.after("withdraw(2, 0, 100)").is("balanceAt(0, 1)", 800).is("balanceAt(0, 0)", 1000).after("closeDay()");
        run.is("balanceAt(0, 1)", 800).is("balanceAt(0, 2)", 800).after("reverse(3, 2)").is("balanceAt(0, 1)", 800);
        run.is("balanceAt(0, 2)", 900);
        says(25, "Returns the balance behind all transactions of this day and of the days before, 0 if");
        run.is("balanceAt(1, 0)", 0).is("balanceAt(1, 2)", 0).after("transfer(4, 0, 1, 1)").is("balanceAt(1, 1)", 0);
        run.is("balanceAt(1, 2)", 1).after("openAccount(0, 1000000)").is("balanceAt(4, 0)", 0).is("balanceAt(4, 2)", 0);
    }

    private static void houseBalance() {
        says(26, "- `currency`: the currency, 0 to 3", RANGES);
        Run.usual().range("houseBalance(#, true)", 0, 3, Run.ARGUMENT)
            .range("houseBalance(#, false)", 0, 3, Run.ARGUMENT);
        says(26, "Returns the balance of a house account.", "- `isExchange`", "Returns the balance.");
        Run run = Run.usual().same("houseBalance(0, false)", -1000).same("houseBalance(0, true)", 0);
        run.after("setRate(0, 500)", "transfer(1, 0, 2, 1000)").same("houseBalance(0, true)", 1000);
        run.same("houseBalance(1, true)", -500).same("houseBalance(1, false)", -1000).same("houseBalance(3, true)", 0);
        rich().after("withdraw(1, 0, 1000000)").is("houseBalance(0, false)", 1000000).is("houseBalance(0, true)", 0);
    }

    private static void worth() {
        says(27, "- `account`", NO_SUCH);
        new Run().refuses("worth(0)", Run.BOUNDS);
        Run.usual().indexes("worth(#)", 4);
        says(27, "Returns the worth of an account: its balance times the rate of its currency.", "Returns the worth.");
        Run.usual().is("worth(0)", 1000000).is("worth(3)", 0).after("setRate(0, 100)").is("worth(0)", 100000)
            .is("worth(2)", 1000000);
        Run least = rich().after("withdraw(1, 0, 1000000)").is("worth(0)", -1000000000);
        least.after("setRate(0, 100)").is("worth(0)", -100000000);
        Run great = rich().after("setRate(1, 100)", "transfer(1, 0, 2, 1000000)", "setRate(1, 1000)");
        great.is("worth(2)", 10000000000L).is("balance(2)", 10000000);
    }

    // ---- questions about transactions, holds and keys

    private static void questionsAboutTransactions() {
        says(28, "Returns the number of transactions.");
        Run run = Run.usual().is("transactions()", 2).fillJournal(0, 149).is("transactions()", 149);
        run.after("deposit(999, 0, 5)").is("transactions()", 150).refuses("deposit(998, 0, 5)", Run.STATE);
        run.is("transactions()", 150);
        new Run().is("transactions()", 0);
        for (String question : new String[] {"kindOf", "payerOf", "payeeOf", "paidOf", "receivedOf", "reversalOf"}) {
            new Run().refuses(question + "(0)", Run.BOUNDS);
            Run.usual().indexes(question + "(#)", 2);
            run.indexes(question + "(#)", 150);
        }
        says(29, "Returns the kind of a transaction.", "- `transaction`", "Returns 'd', 'w', 't', 'c', 'b' or 'r'.",
            NO_SUCH);
        Run kinds = Run.usual().after("withdraw(1, 0, 1)", "transfer(2, 0, 1, 1)", "hold(3, 0, 1, 1, 0)");
        kinds.after("capture(4, 0, 1)", "addPayment(0, 1, 1)", "settle(5)", "reverse(6, 5)");
        String due = "ddwtcbr";
        for (int number = 0; number < 7; number++) {
            kinds.same("kindOf(" + number + ")", due.charAt(number));
        }
        parties();
        amounts();
    }

    private static void parties() {
        Run run = Run.usual().after("withdraw(1, 0, 1)", "transfer(2, 2, 1, 1)", "reverse(3, 2)", "reverse(4, 0)");
        says(30, "Returns the payer of a transaction.", "- `transaction`",
            "Returns the number of the account that paid.");
        says(30, NO_SUCH, ABSENT);
        run.refuses("payerOf(0)", Run.MISSING).refuses("payerOf(1)", Run.MISSING).refuses("payerOf(4)", Run.MISSING);
        run.same("payerOf(2)", 0).same("payerOf(3)", 2).same("payerOf(5)", 0).refuses("payerOf(6)", Run.BOUNDS);
        says(31, "Returns the payee of a transaction.", "- `transaction`",
            "Returns the number of the account that rec");
        says(31, NO_SUCH, ABSENT);
        run.same("payeeOf(0)", 0).same("payeeOf(1)", 2).same("payeeOf(3)", 1).same("payeeOf(4)", 0);
        run.refuses("payeeOf(2)", Run.MISSING).refuses("payeeOf(5)", Run.MISSING).refuses("payeeOf(6)", Run.BOUNDS);
        Run ten = new Run().after(10, "openAccount(0, 9)").after("transfer(1, 9, 0, 9)", "transfer(2, 0, 9, 9)");
        ten.same("payerOf(0)", 9).same("payeeOf(0)", 0).same("payerOf(1)", 0).same("payeeOf(1)", 9);
    }

    private static void amounts() {
        Run run = rich().after("setRate(1, 100)", "transfer(1, 0, 2, 1000000)", "setRate(1, 1000)", "reverse(2, 0)");
        run.after("setRate(0, 100)", "transfer(3, 0, 2, 10)", "deposit(4, 1, 1)", "deposit(5, 1, 1000000)");
        says(32, "Returns the paid amount of a transaction.", "- `transaction`", "Returns the paid amount.", NO_SUCH);
        run.same("paidOf(0)", 1000000).same("paidOf(1)", 10000000).same("paidOf(2)", 10).same("paidOf(3)", 1);
        run.same("paidOf(4)", 1000000).refuses("paidOf(5)", Run.BOUNDS);
        says(33, "Returns the received amount of a transaction.", "- `transaction`", "Returns the received amount.");
        says(33, NO_SUCH);
        run.same("receivedOf(0)", 10000000).same("receivedOf(1)", 1000000).same("receivedOf(2)", 1);
        run.same("receivedOf(3)", 1).same("receivedOf(4)", 1000000).refuses("receivedOf(5)", Run.BOUNDS);
        says(34, "Returns the reversal of a transaction.", "- `transaction`", "Returns the number of the reversal.");
        says(34, NO_SUCH, ABSENT);
        run.same("reversalOf(0)", 1).refuses("reversalOf(1)", Run.MISSING).refuses("reversalOf(2)", Run.MISSING);
        run.refuses("reversalOf(5)", Run.BOUNDS).after("reverse(6, 2)").same("reversalOf(2)", 5);
        Run.usual().after("reverse(1, 1)", "reverse(2, 0)").same("reversalOf(0)", 3).same("reversalOf(1)", 2);
        Run.usual().fillJournal(0, 149).refuses("reversalOf(0)", Run.MISSING).after("reverse(999, 0)")
            .same("reversalOf(0)", 149).refuses("reversalOf(149)", Run.MISSING);
    }

    private static void questionsAboutHoldsAndKeys() {
        says(35, "Returns the state of a hold.", "- `hold`", "Returns 'a', 'c', 'r' or 'x'.", NO_SUCH);
        rich().refuses("stateOf(0)", Run.BOUNDS);
        Run run = rich().after("hold(1, 0, 1, 5, 0)").indexes("stateOf(#)", 1).indexes("lastDayOf(#)", 1);
        run.after("hold(2, 0, 1, 5, 0)", "hold(3, 0, 1, 5, 0)", "hold(4, 0, 1, 5, 1)", "capture(5, 0, 5)",
            "release(1)");
        run.same("stateOf(0)", 'c').same("stateOf(1)", 'r').same("stateOf(2)", 'a').same("stateOf(3)", 'a');
        run.after("closeDay()").same("stateOf(0)", 'c').same("stateOf(1)", 'r').same("stateOf(2)", 'x');
        run.same("stateOf(3)", 'a').after("closeDay()").same("stateOf(3)", 'x');
        says(36, "Returns the last day of a hold.", "- `hold`", "Returns the last day.", NO_SUCH);
        rich().refuses("lastDayOf(0)", Run.BOUNDS);
        run.same("lastDayOf(0)", 0).same("lastDayOf(3)", 1).after("hold(6, 0, 1, 5, 0)", "hold(7, 0, 1, 5, 20)");
        run.same("lastDayOf(4)", 2).same("lastDayOf(5)", 22).after(20, "closeDay()").same("stateOf(5)", 'a');
        run.after("closeDay()").same("stateOf(5)", 'x').same("lastDayOf(5)", 22).refuses("lastDayOf(6)", Run.BOUNDS);
        Run thirty = rich();
        for (int hold = 0; hold < 30; hold++) {
            thirty.after("hold(" + (hold + 1) + ", 0, 1, 5, 0)");
        }
        thirty.indexes("stateOf(#)", 30).indexes("lastDayOf(#)", 30);
        keysAndAnswers(thirty);
    }

    private static void keysAndAnswers(Run thirty) {
        says(37, "Returns the number of keys that are remembered.", "Returns the number of keys.");
        new Run().same("keys()", 0);
        rich().after("deposit(1, 0, 5)").same("keys()", 1).same("deposit(1, 0, 5)", 0).same("keys()", 1)
            .refuses("deposit(1, 0, 6)", Run.ARGUMENT).same("keys()", 1).after("deposit(999, 0, 5)").same("keys()", 2)
            .after(2, "closeDay()").same("keys()", 2).after("closeDay()").same("keys()", 0);
        Run most = thirty.copy();
        for (int key = 101; key <= 250; key++) {
            most.after("deposit(" + key + ", 0, 1)");
        }
        most.same("keys()", 180).refuses("deposit(998, 0, 1)", Run.STATE).same("deposit(250, 0, 1)", 149);
        most.same("answerOf(250)", 149).same("answerOf(1)", 0).same("answerOf(30)", 29).same("keys()", 180);
        most.after(2, "closeDay()").same("keys()", 180).after("closeDay()").same("keys()", 0);
        says(38, "Returns what a call with a key returned.", "- `key`", "Returns the number that was returned.",
            ABSENT);
        Run run = rich().refuses("answerOf(1)", Run.MISSING).after("deposit(1, 0, 5)", "deposit(999, 0, 6)");
        run.same("answerOf(1)", 0).same("answerOf(999)", 1);
        for (String key : new String[] {"MIN", "-1", "0", "2", "998", "1000", "MAX"}) {
            run.refuses("answerOf(" + key + ")", Run.MISSING);
        }
        run.after(12, "addPayment(0, 1, 5)").after("settle(500)").same("answerOf(500)", 12);
        run.after(2, "closeDay()").same("answerOf(1)", 0).same("answerOf(500)", 12).after("closeDay()");
        run.refuses("answerOf(1)", Run.MISSING).refuses("answerOf(500)", Run.MISSING);
        run.after("hold(1, 0, 1, 5, 0)", "hold(500, 0, 1, 5, 0)").same("answerOf(1)", 0).same("answerOf(500)", 1);
    }

    // ---- accounts of the whole

    private static void accountsOfTheWhole() {
        says(39, "Returns whether debits and credits are one sum.", "Returns whether for each currency the balances");
        new Run().same("isBalanced()", true);
        Run rounded = rich().after("setRate(0, 999)", "transfer(1, 0, 2, 1000000)").same("isBalanced()", true);
        rounded.after("setRate(0, 100)", "addPayment(2, 0, 999)", "settle(2)", "reverse(3, 1)");
        rounded.same("isBalanced()", true).after("withdraw(4, 2, 5)", "deposit(5, 1, 1)").same("isBalanced()", true);
        fullJournal().same("isBalanced()", true);
        says(40, NONE);
        new Run().refuses("reversedShare()", Run.ARITHMETIC);
        rich().after("hold(1, 0, 1, 5, 0)", "addPayment(0, 1, 5)").refuses("reversedShare()", Run.ARITHMETIC)
            .refuses("meanPaid()", Run.ARITHMETIC).after("settle(2)").same("reversedShare()", 0.0f);
        says(40, "Returns the share of the transactions that have been reversed.",
            "Returns the number of transactions");
        Run.usual().same("reversedShare()", 0.0f).after("reverse(1, 0)").same("reversedShare()", 1.0f / 3.0f)
            .after("reverse(2, 1)").same("reversedShare()", 0.5f);
        Run.usual().fillJournal(0, 149).after("reverse(999, 1)").same("reversedShare()", 1.0f / 150.0f);
        says(41, NONE);
        new Run().refuses("meanPaid()", Run.ARITHMETIC);
        says(41, "Returns the mean of the paid amounts of all transactions.", "Returns the sum of the paid amounts");
        rich().after("deposit(1, 0, 1)").same("meanPaid()", 1.0).after("deposit(2, 0, 2)").same("meanPaid()", 1.5)
            .after("deposit(3, 0, 1000000)").same("meanPaid()", 1000003.0 / 3.0);
        Run great = rich().after("setRate(1, 100)", "transfer(1, 0, 2, 1000000)", "reverse(2, 0)");
        great.same("meanPaid()", 5500000.0);
        Run sum = new Run("openAccount(0, 0)", "openAccount(1, 0)", "setRate(1, 100)", "deposit(999, 0, 1000000)");
        for (int round = 1; round <= 74; round++) {
            sum.after("transfer(" + round + ", 0, 1, 1000000)",
                "reverse(" + (100 + round) + ", " + (2 * round - 1) + ")");
        }
        sum.same("transactions()", 149).same("meanPaid()", 815000000.0 / 149.0).same("isBalanced()", true);
    }
}
