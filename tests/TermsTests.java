/**
 * The document's sentences ahead of the promises, 'What it is' and 'Terms', each with a test of its own:
 * what it says at its boundaries, just inside and just outside.
 */
public final class TermsTests {
    private static final Document DOCUMENT = new Document();

    private TermsTests() {
    }

    public static void main(String[] args) {
        use();
        accounts();
        rates();
        transactions();
        kinds();
        holds();
        reversals();
        batch();
        keys();
        days();
        exceptions();
        Run.end(DOCUMENT.left(false));
    }

    private static void says(String section, String... beginnings) {
        DOCUMENT.says(section, beginnings);
    }

    // ---- what it is

    private static void use() {
        lastCalls();
        questions();
        oneSum();
    }

    private static void lastCalls() {
        says("What it is", "A payment ledger with double entry", "An object is used for at most 512 calls");
        new Run().after(511, "closeDay()").is("day()", 511);
        new Run().after(511, "closeDay()").is("closeDay()", 0);
        new Run("openAccount(0, 0)").after(509, "closeDay()").after("deposit(1, 0, 5)").is("deposit(1, 0, 5)", 0);
        Run busy = new Run("openAccount(0, 0)", "openAccount(1, 0)").fillJournal(0, 150);
        for (int hold = 0; hold < 30; hold++) {
            busy.after("hold(" + (200 + hold) + ", 0, 1, 1, 20)");
        }
        busy.after(12, "addPayment(0, 1, 5)").after(20, "closeDay()").after(297, "balance(0)");
        busy.copy().is("closeDay()", 30);
        busy.copy().is("keys()", 0);
        busy.copy().refuses("capture(1, 29, 1)", Run.STATE);
        busy.is("release(29)", 1);
    }

    private static void questions() {
        says("Terms", "Its calls are those of a payment service");
        Run run = Run.usual().after("hold(1, 0, 1, 50, 3)", "addPayment(0, 2, 70)", "withdraw(2, 0, 5)");
        run.same("batchSize()", 1).same("cut()", 1).same("cutByTrying()", 1).same("netOf(2)", 70);
        run.same("accounts()", 4).same("day()", 0).same("balance(0)", 995).same("available(0)", 945);
        run.same("balanceByReplay(0)", 995).same("balanceAt(0, 0)", 995).same("houseBalance(0, false)", -995);
        run.same("houseBalance(0, true)", 0).same("worth(0)", 995000).same("transactions()", 3);
        run.same("kindOf(2)", 'w').same("payerOf(2)", 0).same("payeeOf(0)", 0).same("paidOf(2)", 5);
        run.same("receivedOf(2)", 5).refuses("reversalOf(2)", Run.MISSING).same("stateOf(0)", 'a');
        run.same("lastDayOf(0)", 3).same("keys()", 4).same("answerOf(2)", 2).same("isBalanced()", true);
        run.same("reversedShare()", 0.0f).same("meanPaid()", 2005.0 / 3.0);
    }

    private static void oneSum() {
        says("Terms", "Debits and credits are one sum.");
        Run run = new Run().is("isBalanced()", true);
        run.after("openAccount(0, 1000000)", "openAccount(3, 0)").is("isBalanced()", true);
        run.after("setRate(3, 999)", "setRate(0, 997)", "transfer(1, 0, 1, 1000000)").is("isBalanced()", true);
        run.after("deposit(2, 1, 1000000)", "withdraw(3, 1, 999999)").is("isBalanced()", true);
        run.is("balance(0)", -1000000).is("houseBalance(0, true)", 1000000).is("houseBalance(3, true)", -997997);
        run.is("balance(1)", 997998).is("houseBalance(3, false)", -1);
        run.after("setRate(3, 100)", "reverse(4, 0)").is("isBalanced()", true).is("houseBalance(3, true)", 0);
        run.is("balance(0)", 0).is("houseBalance(0, true)", 0).is("balance(1)", 1).is("houseBalance(3, false)", -1);
    }

    // ---- accounts

    private static void accounts() {
        tenAccounts();
        whatAnAccountHas();
        houseAccounts();
        heldAmount();
        availableAmount();
    }

    private static void tenAccounts() {
        says("Accounts", "There are at most 10 accounts");
        Run run = new Run().is("accounts()", 0).refuses("balance(0)", Run.BOUNDS);
        for (int account = 0; account < 10; account++) {
            run.is("openAccount(" + account % 4 + ", " + account + ")", account).is("accounts()", account + 1);
            run.is("available(" + account + ")", account).refuses("balance(" + (account + 1) + ")", Run.BOUNDS);
        }
        run.refuses("openAccount(0, 0)", Run.STATE).refuses("openAccount(3, 1000000)", Run.STATE);
        run.is("accounts()", 10).is("deposit(1, 9, 5)", 0).refuses("deposit(2, 10, 5)", Run.BOUNDS);
        run.is("transfer(3, 9, 0, 5)", 1).is("hold(4, 9, 8, 9, 0)", 0).is("addPayment(8, 9, 1)", 1);
    }

    private static void whatAnAccountHas() {
        says("Accounts", "An account has a currency from 0 to 3, a limit from 0 to 1000000");
        new Run().range("openAccount(#, 0)", 0, 3, Run.ARGUMENT);
        new Run().range("openAccount(0, #)", 0, 1000000, Run.ARGUMENT);
        new Run().range("openAccount(3, #)", 0, 1000000, Run.ARGUMENT);
        new Run("openAccount(1, 1000000)").is("balance(0)", 0).is("available(0)", 1000000).is("worth(0)", 0)
            .is("balanceByReplay(0)", 0).is("balanceAt(0, 0)", 0).is("setLimit(0, 0)", 1000000)
            .is("available(0)", 0).is("balance(0)", 0);
        for (int currency = 0; currency < 4; currency++) {
            new Run("openAccount(" + currency + ", 0)", "deposit(1, 0, 1000000)").is("balance(0)", 1000000)
                .is("houseBalance(" + currency + ", false)", -1000000);
        }
    }

    private static void houseAccounts() {
        says("Accounts", "Each currency also has two house accounts");
        for (int currency = 0; currency < 4; currency++) {
            new Run().is("houseBalance(" + currency + ", false)", 0).is("houseBalance(" + currency + ", true)", 0);
        }
        Run run = new Run("openAccount(0, 1000000)", "openAccount(3, 0)", "setRate(3, 100)");
        run.is("withdraw(1, 0, 1)", 0).is("houseBalance(0, false)", 1);
        run.is("deposit(2, 0, 2)", 1).is("houseBalance(0, false)", -1).is("houseBalance(3, false)", 0);
        run.is("transfer(3, 0, 1, 1000000)", 2).is("houseBalance(0, true)", 1000000);
        run.is("houseBalance(3, true)", -10000000).is("houseBalance(3, false)", 0).is("balance(1)", 10000000);
        run.range("houseBalance(#, true)", 0, 3, Run.ARGUMENT).range("houseBalance(#, false)", 0, 3, Run.ARGUMENT);
    }

    private static void heldAmount() {
        says("Accounts", "The held amount of an account is the sum of the amounts of all active holds");
        Run run = Run.usual().after("hold(1, 0, 1, 100, 1)").is("available(0)", 900).is("available(1)", 0);
        run.after("hold(2, 0, 2, 200, 1)", "hold(3, 2, 0, 50, 1)").is("available(0)", 700).is("available(2)", 950);
        run.is("balance(0)", 1000).is("balance(2)", 1000);
        run.copy().after("release(0)").is("available(0)", 800).after("release(1)").is("available(0)", 1000);
        run.copy().after("capture(4, 0, 1)").is("available(0)", 799).is("balance(0)", 999);
        run.copy().after("closeDay()").is("available(0)", 700).after("closeDay()").is("available(0)", 1000);
        Run thirty = Run.usual();
        for (int hold = 0; hold < 30; hold++) {
            thirty.after("hold(" + (hold + 1) + ", 0, 1, 33, 20)");
        }
        thirty.is("available(0)", 10).refuses("withdraw(99, 0, 11)", Run.UNSUPPORTED).is("withdraw(99, 0, 10)", 2);
    }

    private static void availableAmount() {
        says("Accounts", "The available amount of an account is its balance plus its limit minus its held amount");
        Run run = Run.usual().after("setLimit(0, 30)", "hold(1, 0, 1, 10, 1)").is("available(0)", 1020);
        run.copy().refuses("withdraw(2, 0, 1021)", Run.UNSUPPORTED).is("withdraw(2, 0, 1020)", 2).is("available(0)", 0);
        run.copy().refuses("hold(2, 0, 1, 1021, 1)", Run.UNSUPPORTED).is("hold(2, 0, 1, 1020, 1)", 1)
            .is("available(0)", 0);
        run.copy().refuses("transfer(2, 0, 1, 1021)", Run.UNSUPPORTED).is("transfer(2, 0, 1, 1020)", 2)
            .is("available(0)", 0);
        run.copy().after("withdraw(2, 0, 1000)").refuses("setLimit(0, 9)", Run.UNSUPPORTED)
            .is("setLimit(0, 10)", 30).is("available(0)", 0).is("balance(0)", 0);
        run.copy().after("withdraw(2, 0, 21)").refuses("reverse(3, 0)", Run.UNSUPPORTED).is("release(0)", 10)
            .is("reverse(3, 0)", 3).is("available(0)", 9).is("balance(0)", -21);
        run.copy().after("addPayment(0, 1, 1021)").refuses("settle(2)", Run.UNSUPPORTED)
            .after("removePayment(0)", "addPayment(0, 1, 1020)").is("settle(2)", 1).is("available(0)", 0);
        new Run("openAccount(0, 1000000)").is("withdraw(1, 0, 1000000)", 0).is("available(0)", 0)
            .is("balance(0)", -1000000).refuses("withdraw(2, 0, 1)", Run.UNSUPPORTED);
    }

    // ---- rates

    private static void rates() {
        rateOfACurrency();
        receivedAmount();
        receivedAmountAtItsEnds();
    }

    private static void rateOfACurrency() {
        says("Rates", "Each currency has a rate from 100 to 1000, initially 1000.");
        for (int currency = 0; currency < 4; currency++) {
            String setRate = "setRate(" + currency + ", ";
            new Run().is(setRate + "1000)", 1000).is(setRate + "100)", 1000).is(setRate + "999)", 100)
                .range(setRate + "#)", 100, 1000, Run.ARGUMENT);
            new Run("openAccount(" + currency + ", 0)", "deposit(1, 0, 1)").is("worth(0)", 1000)
                .after(setRate + "100)").is("worth(0)", 100);
        }
        new Run("setRate(1, 100)").is("setRate(0, 500)", 1000).is("setRate(2, 500)", 1000).is("setRate(3, 500)", 1000);
    }

    private static void receivedAmount() {
        says("Rates", "The amount that is received for a paid amount is the paid amount itself");
        Run one = Run.usual().after("setRate(0, 100)").is("transfer(1, 0, 1, 1)", 2).is("receivedOf(2)", 1);
        one.is("houseBalance(0, true)", 0);
        Run equal = Run.usual().is("transfer(1, 0, 2, 1)", 2).is("receivedOf(2)", 1);
        equal.is("houseBalance(0, true)", 1).is("houseBalance(1, true)", -1);
        Run down = Run.usual().after("setRate(0, 333)", "setRate(1, 999)");
        down.refuses("transfer(1, 0, 2, 1)", Run.UNSUPPORTED).refuses("transfer(1, 0, 2, 2)", Run.UNSUPPORTED);
        down.is("transfer(1, 0, 2, 3)", 2).is("receivedOf(2)", 1).is("transfer(2, 0, 2, 5)", 3).is("receivedOf(3)", 1);
        down.is("transfer(3, 0, 2, 6)", 4).is("receivedOf(4)", 2).is("balance(2)", 1004).is("balance(0)", 986);
        Run up = Run.usual().after("setRate(0, 1000)", "setRate(1, 999)");
        up.is("transfer(1, 0, 2, 998)", 2).is("receivedOf(2)", 998).is("houseBalance(1, true)", -998);
        up.refuses("transfer(2, 2, 0, 1)", Run.UNSUPPORTED).is("transfer(2, 2, 0, 2)", 3).is("receivedOf(3)", 1);
    }

    private static void receivedAmountAtItsEnds() {
        Run most = new Run("openAccount(0, 1000000)", "openAccount(1, 0)", "setRate(1, 100)");
        most.is("transfer(1, 0, 1, 1000000)", 0).is("receivedOf(0)", 10000000).is("balance(1)", 10000000);
        Run least = new Run("openAccount(0, 1000000)", "openAccount(1, 0)", "setRate(0, 100)");
        least.refuses("transfer(1, 0, 1, 9)", Run.UNSUPPORTED).is("transfer(1, 0, 1, 10)", 0).is("receivedOf(0)", 1);
        least.is("transfer(2, 0, 1, 19)", 1).is("receivedOf(1)", 1).is("transfer(3, 0, 1, 20)", 2);
        least.is("receivedOf(2)", 2).is("transfer(4, 0, 1, 999951)", 3).is("receivedOf(3)", 99995);
        least.is("available(0)", 0);
        Run near = new Run("openAccount(0, 1000000)", "openAccount(1, 0)", "setRate(0, 999)");
        near.refuses("transfer(1, 0, 1, 1)", Run.UNSUPPORTED).is("transfer(1, 0, 1, 2)", 0).is("receivedOf(0)", 1);
    }

    // ---- transactions and kinds

    private static void transactions() {
        fullJournal();
        partiesOfATransaction();
        outsideOfATransaction();
        balancesOfATransaction();
        exchangesOfATransaction();
    }

    private static void fullJournal() {
        says("Transactions", "The journal has at most 150 transactions, numbered from 0");
        Run empty = new Run("openAccount(0, 0)").is("transactions()", 0).refuses("kindOf(0)", Run.BOUNDS);
        for (int number = 0; number < 150; number++) {
            empty.is("deposit(" + (number + 1) + ", 0, " + (number + 1) + ")", number);
        }
        empty.is("transactions()", 150).is("paidOf(0)", 1).is("paidOf(149)", 150).refuses("paidOf(150)", Run.BOUNDS);
        Run last = Run.usual().after("hold(903, 0, 1, 9, 9)", "addPayment(2, 3, 1)", "addPayment(2, 3, 1)")
            .fillJournal(0, 149);
        String[] calls = {"deposit(990, 0, 1)", "withdraw(990, 2, 1)", "transfer(990, 2, 3, 1)", "capture(990, 0, 1)",
            "reverse(990, 1)"};
        for (String call : calls) {
            Run full = last.copy().is(call, 149).is("transactions()", 150);
            for (String next : calls) {
                String refused = next.contains("reverse") ? "reverse(991, 0)" : next.replace("990", "991");
                boolean captured = call.contains("capture") && next.contains("capture");
                boolean spent = call.equals("reverse(990, 1)") && next.matches("(withdraw|transfer).*");
                full.refuses(refused, captured ? Run.MISSING : spent ? Run.UNSUPPORTED : Run.STATE);
            }
            full.same(call, 149).refuses("settle(991)", Run.UNSUPPORTED).same("cut()", 0);
        }
        last.is("settle(990)", 1).is("transactions()", 150).is("batchSize()", 1);
        last.refuses("settle(991)", Run.UNSUPPORTED).is("hold(991, 0, 1, 1, 0)", 1);
    }

    private static void partiesOfATransaction() {
        says("Transactions", "A transaction has a kind, a payer and a payee, of which at least one is an account");
        Run run = Run.usual().after("withdraw(1, 0, 3)", "transfer(2, 0, 1, 4)", "reverse(3, 2)", "reverse(4, 1)");
        run.refuses("payerOf(0)", Run.MISSING).is("payeeOf(0)", 0).is("payerOf(2)", 0)
            .refuses("payeeOf(2)", Run.MISSING);
        run.is("payerOf(3)", 0).is("payeeOf(3)", 1).refuses("payerOf(4)", Run.MISSING).is("payeeOf(4)", 0);
        run.is("payerOf(5)", 2).refuses("payeeOf(5)", Run.MISSING);
        run.after("closeDay()", "setRate(0, 200)", "transfer(5, 0, 2, 9)").is("paidOf(6)", 9).is("receivedOf(6)", 1);
        run.is("balanceAt(2, 0)", 0).is("balanceAt(2, 1)", 1).is("balanceAt(0, 0)", 996).is("balanceAt(0, 1)", 987);
    }

    private static void outsideOfATransaction() {
        says("Transactions", "The outside that takes part in a transaction is that of the currency of the account.");
        for (int currency = 0; currency < 4; currency++) {
            int other = (currency + 1) % 4;
            Run run = new Run("openAccount(" + other + ", 0)", "openAccount(" + currency + ", 0)");
            run.after("deposit(1, 1, 100)").is("houseBalance(" + currency + ", false)", -100);
            run.after("withdraw(2, 1, 30)").is("houseBalance(" + currency + ", false)", -70);
            run.after("reverse(3, 1)").is("houseBalance(" + currency + ", false)", -100);
            run.after("reverse(4, 0)").is("houseBalance(" + currency + ", false)", 0);
            run.is("houseBalance(" + other + ", false)", 0).is("houseBalance(" + currency + ", true)", 0);
        }
    }

    private static void balancesOfATransaction() {
        says("Transactions", "When a transaction is made, the balance of the payer decreases by the paid amount");
        Run run = Run.usual().after("setRate(0, 250)", "transfer(1, 0, 2, 1000)").is("balance(0)", 0);
        run.is("balance(2)", 1250).is("balance(1)", 0).is("balance(3)", 0);
        run.after("deposit(2, 1, 1)").is("balance(1)", 1).after("withdraw(3, 1, 1)").is("balance(1)", 0);
        Run great = new Run("openAccount(0, 0)", "openAccount(1, 0)", "setRate(1, 100)");
        for (int key = 1; key <= 75; key++) {
            great.after("deposit(" + key + ", 0, 1000000)", "transfer(" + (key + 100) + ", 0, 1, 1000000)");
        }
        great.is("balance(1)", 750000000).is("balanceByReplay(1)", 750000000).is("balance(0)", 0);
        great.is("houseBalance(1, true)", -750000000).is("houseBalance(0, false)", -75000000);
        great.after("setRate(1, 1000)").is("worth(1)", 750000000000L).is("isBalanced()", true);
        great.is("meanPaid()", 1000000.0).is("available(1)", 750000000);
    }

    private static void exchangesOfATransaction() {
        says("Transactions", "If the currencies of the payer and the payee differ, the balance of the exchange");
        Run run = Run.usual().after("setRate(1, 300)", "transfer(1, 0, 2, 7)").is("houseBalance(0, true)", 7);
        run.is("houseBalance(1, true)", -23).is("houseBalance(2, true)", 0).is("houseBalance(0, false)", -1000);
        run.after("transfer(2, 0, 1, 5)").is("houseBalance(0, true)", 7);
        run.after("reverse(3, 2)").is("houseBalance(0, true)", 0).is("houseBalance(1, true)", 0);
        run.after("hold(4, 2, 3, 10, 0)", "capture(5, 0, 10)").is("houseBalance(1, true)", 10);
        run.is("houseBalance(2, true)", -3).after("addPayment(3, 2, 3)", "settle(6)").is("houseBalance(2, true)", 0);
        run.is("houseBalance(1, true)", 0).is("houseBalance(3, true)", 0);
    }

    private static void kinds() {
        says("Kinds", "A transaction has the kind 'd' if it is a deposit");
        Run run = Run.usual().after("withdraw(1, 2, 5)", "transfer(2, 0, 1, 5)", "hold(3, 0, 1, 5, 0)");
        run.after("capture(4, 0, 5)", "addPayment(0, 2, 5)", "settle(5)");
        String kinds = "ddwtcb";
        for (int number = 0; number < 6; number++) {
            run.is("kindOf(" + number + ")", kinds.charAt(number));
        }
        int[] reversed = {1, 2, 3, 4, 5};
        for (int i = 0; i < reversed.length; i++) {
            run.after("deposit(" + (20 + i) + ", 2, 1000)", "reverse(" + (10 + i) + ", " + reversed[i] + ")");
            run.is("kindOf(" + (6 + 2 * i) + ")", 'd').is("kindOf(" + (7 + 2 * i) + ")", 'r');
            run.is("kindOf(" + reversed[i] + ")", kinds.charAt(reversed[i]));
        }
    }

    // ---- holds

    private static void holds() {
        thirtyHolds();
        whatAHoldHas();
        stateOfAHold();
        captureOfAHold();
    }

    private static void thirtyHolds() {
        says("Holds", "There are at most 30 holds, numbered from 0");
        Run run = Run.usual().refuses("stateOf(0)", Run.BOUNDS);
        for (int hold = 0; hold < 30; hold++) {
            run.is("hold(" + (hold + 1) + ", 0, 1, " + (hold + 1) + ", 0)", hold);
        }
        run.refuses("hold(31, 0, 1, 1, 0)", Run.STATE).is("stateOf(29)", 'a').refuses("stateOf(30)", Run.BOUNDS);
        run.same("hold(30, 0, 1, 30, 0)", 29);
        run.is("release(0)", 1).is("release(29)", 30).is("capture(40, 10, 11)", 2);
        run.refuses("hold(31, 0, 1, 1, 0)", Run.STATE);
        run.is("closeDay()", 27).refuses("hold(31, 0, 1, 1, 0)", Run.STATE).is("stateOf(28)", 'x');
        run.after(2, "closeDay()").refuses("hold(30, 0, 1, 30, 0)", Run.STATE);
    }

    private static void whatAHoldHas() {
        says("Holds", "A hold has a payer and a payee, which are two different accounts");
        Run run = Run.usual().refuses("hold(1, 0, 0, 5, 0)", Run.ARGUMENT).refuses("hold(1, 3, 3, 5, 0)", Run.ARGUMENT);
        run.after("setRate(1, 100)", "hold(1, 0, 2, 1000, 20)").is("available(0)", 0).is("lastDayOf(0)", 20);
        run.is("capture(2, 0, 1000)", 2).is("payerOf(2)", 0).is("payeeOf(2)", 2).is("paidOf(2)", 1000);
        run.is("receivedOf(2)", 10000);
        Run most = new Run("openAccount(0, 1000000)", "openAccount(0, 0)");
        most.range("hold(1, 0, 1, #, 0)", 1, 1000000, Run.ARGUMENT);
        most.is("hold(1, 0, 1, 1000000, 0)", 0).is("available(0)", 0).is("release(0)", 1000000);
    }

    private static void stateOfAHold() {
        says("Holds", "Its state is 'a' as long as it is active");
        Run run = Run.usual().after("hold(1, 0, 1, 5, 1)", "hold(2, 0, 1, 5, 1)", "hold(3, 0, 1, 5, 1)");
        for (int hold = 0; hold < 3; hold++) {
            run.is("stateOf(" + hold + ")", 'a');
        }
        run.is("capture(4, 0, 4)", 2).is("release(1)", 5).is("stateOf(0)", 'c').is("stateOf(1)", 'r');
        run.is("stateOf(2)", 'a').is("closeDay()", 0).is("stateOf(2)", 'a').is("closeDay()", 1);
        run.is("stateOf(0)", 'c').is("stateOf(1)", 'r').is("stateOf(2)", 'x');
        for (int hold = 0; hold < 3; hold++) {
            run.refuses("release(" + hold + ")", Run.MISSING).refuses("capture(9, " + hold + ", 1)", Run.MISSING);
        }
    }

    private static void captureOfAHold() {
        says("Holds", "When a hold is captured with an amount, it is not active any more");
        Run run = Run.usual().after("hold(1, 0, 2, 500, 0)", "setRate(0, 200)");
        run.copy().is("capture(2, 0, 500)", 2).is("paidOf(2)", 500).is("receivedOf(2)", 100).is("available(0)", 500);
        run.copy().is("capture(2, 0, 5)", 2).is("receivedOf(2)", 1).is("available(0)", 995).is("available(2)", 1001);
        run.refuses("capture(2, 0, 4)", Run.UNSUPPORTED).refuses("capture(2, 0, 501)", Run.UNSUPPORTED);
        run.is("stateOf(0)", 'a').after("setRate(0, 250)").is("capture(2, 0, 4)", 2).is("kindOf(2)", 'c');
        run.is("stateOf(0)", 'c').is("balance(0)", 996).is("available(0)", 996);
        run.refuses("capture(3, 0, 4)", Run.MISSING).refuses("release(0)", Run.MISSING);
        Run all = Run.usual().after("hold(1, 0, 1, 1000, 0)").is("available(0)", 0);
        all.copy().is("capture(2, 0, 1000)", 2).is("available(0)", 0).is("balance(1)", 1000);
        all.is("capture(2, 0, 1)", 2).is("available(0)", 999).is("balance(1)", 1);
    }

    // ---- reversals

    private static void reversals() {
        amountsOfAReversal();
        onlyOnce();
        says("Reversals", "A reversal makes no hold active again.");
        Run run = Run.usual().after("hold(1, 0, 1, 1000, 20)", "capture(2, 0, 400)", "reverse(3, 2)");
        run.is("stateOf(0)", 'c').is("available(0)", 1000).is("balance(0)", 1000);
        run.refuses("capture(4, 0, 1)", Run.MISSING).refuses("release(0)", Run.MISSING).is("withdraw(4, 0, 1000)", 4);
    }

    private static void amountsOfAReversal() {
        says("Reversals", "The reversal of a transaction is a transaction from the payee of that one to its payer");
        Run run = new Run("openAccount(0, 1000000)", "openAccount(1, 0)", "setRate(1, 100)");
        run.after("transfer(1, 0, 1, 1000000)", "setRate(1, 1000)", "setRate(0, 100)").is("reverse(2, 0)", 1);
        run.is("paidOf(1)", 10000000).is("receivedOf(1)", 1000000).is("payerOf(1)", 1).is("payeeOf(1)", 0);
        run.is("balance(0)", 0).is("balance(1)", 0).is("houseBalance(0, true)", 0).is("houseBalance(1, true)", 0);
        Run least = new Run("openAccount(0, 1000000)", "openAccount(1, 0)", "setRate(0, 100)");
        least.after("transfer(1, 0, 1, 19)").is("reverse(2, 0)", 1).is("paidOf(1)", 1).is("receivedOf(1)", 19);
        least.is("balance(0)", 0).is("balance(1)", 0);
    }

    private static void onlyOnce() {
        says("Reversals", "A transaction can be reversed only once, and a reversal cannot be reversed.");
        Run run = Run.usual().refuses("reversalOf(0)", Run.MISSING).is("reverse(1, 0)", 2).is("reversalOf(0)", 2);
        run.refuses("reverse(2, 0)", Run.MISSING).refuses("reverse(2, 2)", Run.MISSING).same("reverse(1, 0)", 2);
        run.refuses("reversalOf(2)", Run.MISSING).after("deposit(3, 0, 1000)").refuses("reverse(2, 0)", Run.MISSING);
        run.after(3, "closeDay()").refuses("reverse(1, 0)", Run.MISSING).refuses("reverse(1, 2)", Run.MISSING);
        run.is("reverse(1, 3)", 4).is("reverse(2, 1)", 5).is("reversedShare()", 0.5f);
    }

    // ---- the batch

    private static void batch() {
        twelvePayments();
        indexesOfPayments();
        settledTogether();
        ratesOfThatTime();
        greatestCut();
    }

    private static void twelvePayments() {
        says("Batch", "The batch is a list of at most 12 payments that wait");
        Run run = Run.usual().refuses("removePayment(0)", Run.BOUNDS).is("batchSize()", 0);
        for (int size = 1; size <= 12; size++) {
            run.is("addPayment(0, 1, " + size + ")", size).is("batchSize()", size);
        }
        run.refuses("addPayment(0, 1, 1)", Run.STATE).is("cut()", 12).is("cutByTrying()", 12).is("netOf(1)", 78);
        run.copy().is("settle(1)", 12).is("batchSize()", 0).is("addPayment(0, 1, 1)", 1);
        run.is("removePayment(11)", 12).is("addPayment(1, 0, 1000000)", 12).refuses("addPayment(0, 1, 1)", Run.STATE);
        run.is("available(0)", 1000).is("balance(1)", 0);
        Run.usual().range("addPayment(0, 1, #)", 1, 1000000, Run.ARGUMENT)
            .refuses("addPayment(1, 1, 5)", Run.ARGUMENT).refuses("addPayment(0, 0, 5)", Run.ARGUMENT);
    }

    private static void indexesOfPayments() {
        says("Batch", "Payments have indexes from 0 in the order in which they were added.");
        Run run = Run.usual();
        for (int index = 0; index < 12; index++) {
            run.after("addPayment(0, 1, " + (100 + index) + ")");
        }
        run.indexes("removePayment(#)", 12);
        for (int index = 0; index < 12; index++) {
            run.copy().is("removePayment(" + index + ")", 100 + index);
        }
        run.is("removePayment(0)", 100).is("removePayment(0)", 101).is("removePayment(9)", 111);
        run.refuses("removePayment(9)", Run.BOUNDS).is("removePayment(8)", 110).is("batchSize()", 8);
    }

    private static void settledTogether() {
        says("Batch", "The first k payments of the batch can be settled together if the journal has room");
        roomForPayments();
        Run received = Run.usual().after("setRate(0, 100)", "addPayment(0, 2, 10)", "addPayment(0, 2, 9)");
        received.after("addPayment(0, 2, 10)").is("cut()", 1).is("cutByTrying()", 1);
        received.after("setRate(1, 900)").is("cut()", 3).is("cutByTrying()", 3);
        Run only = Run.usual().after("addPayment(1, 0, 700)").is("cut()", 0).refuses("settle(1)", Run.UNSUPPORTED);
        only.after("addPayment(0, 1, 699)").is("cut()", 0).after("addPayment(0, 1, 1)").is("cut()", 3);
        only.is("cutByTrying()", 3).is("settle(1)", 3).is("balance(1)", 0).is("balance(0)", 1000);
        Run exact = Run.usual().after("setLimit(0, 5)", "hold(1, 0, 1, 3, 0)", "addPayment(0, 1, 1002)");
        exact.is("cut()", 1).is("cutByTrying()", 1).after("addPayment(0, 1, 1)").is("cut()", 1).is("cutByTrying()", 1);
        exact.is("settle(2)", 1).is("available(0)", 0).is("balance(0)", -2).is("cut()", 0);
        Run loop = new Run("openAccount(0, 0)", "openAccount(0, 0)", "openAccount(0, 0)");
        loop.after("addPayment(0, 1, 1000000)", "addPayment(1, 2, 1000000)").is("cut()", 0);
        loop.after("addPayment(2, 0, 1000000)").is("cut()", 3).is("cutByTrying()", 3).is("settle(1)", 3);
        loop.is("balance(0)", 0).is("balance(1)", 0).is("balance(2)", 0);
    }

    private static void roomForPayments() {
        for (int size = 137; size <= 150; size++) {
            Run run = Run.usual().fillJournal(0, size).after(12, "addPayment(0, 1, 1)");
            int room = Math.min(12, 150 - size);
            run.is("cut()", room).is("cutByTrying()", room).is("netOf(1)", room);
            if (room > 0) {
                run.is("settle(990)", room).is("transactions()", size + room).is("batchSize()", 12 - room);
            }
        }
    }

    private static void ratesOfThatTime() {
        says("Batch", "Received amounts are found by the rates of that time.");
        Run run = Run.usual().after("addPayment(0, 2, 100)").is("netOf(2)", 100).after("setRate(0, 100)");
        run.is("netOf(2)", 10).after("setRate(0, 110)").is("netOf(2)", 11).is("settle(1)", 1).is("receivedOf(2)", 11);
        run.after("setRate(0, 1000)").is("receivedOf(2)", 11).is("balance(2)", 1011);
        Run later = Run.usual().after("addPayment(0, 2, 1)", "setRate(0, 999)").is("cut()", 0).is("cutByTrying()", 0);
        later.refuses("settle(1)", Run.UNSUPPORTED).after("setRate(1, 999)").is("settle(1)", 1);
    }

    private static void greatestCut() {
        says("Batch", "The cut of the batch is the greatest k, at most the size of the batch");
        new Run().is("cut()", 0).is("cutByTrying()", 0);
        Run.usual().is("cut()", 0).is("cutByTrying()", 0).after("addPayment(0, 1, 1000)").is("cut()", 1)
            .is("cutByTrying()", 1).after("addPayment(0, 1, 1)").is("cut()", 1).is("cutByTrying()", 1)
            .after("addPayment(1, 0, 1)").is("cut()", 3).is("cutByTrying()", 3);
        Run none = Run.usual().after("addPayment(0, 1, 1001)").is("cut()", 0).is("cutByTrying()", 0);
        none.after("addPayment(0, 1, 1)", "addPayment(1, 0, 1)").is("cut()", 0).after("addPayment(1, 0, 1)");
        none.is("cut()", 4).is("cutByTrying()", 4).after("removePayment(3)").is("cut()", 0).is("netOf(0)", 0);
    }

    // ---- keys and days

    private static final String[] KEYED = {"deposit(5, 0, 1)", "withdraw(5, 0, 1)", "capture(5, 0, 1)",
        "transfer(5, 0, 1, 1)", "hold(5, 0, 1, 1, 0)", "reverse(5, 0)", "settle(5)"};

    /** A ledger on a day above 2, on which each of the calls KEYED would return. */
    private static Run readyForKeys() {
        return Run.usual().after("addPayment(0, 1, 1)", "addPayment(0, 1, 1)", "setLimit(0, 5000)")
            .after(3, "closeDay()").after("hold(900, 0, 1, 1, 20)");
    }

    private static void keys() {
        rememberedCalls();
        repeatedCalls();
        repeatedThoughRefused();
        lifeOfAKey();
    }

    private static void rememberedCalls() {
        says("Keys", "A call with a key that returns is remembered with its method, its arguments");
        Run ready = readyForKeys().refuses("answerOf(5)", Run.MISSING).is("keys()", 1);
        for (String first : KEYED) {
            Run run = ready.copy().after(first).is("keys()", 2);
            for (String second : KEYED) {
                if (!first.equals(second)) {
                    run.refuses(second, Run.ARGUMENT);
                }
            }
        }
        ready.copy().after("deposit(5, 0, 1)").refuses("deposit(5, 1, 1)", Run.ARGUMENT)
            .refuses("deposit(5, 0, 2)", Run.ARGUMENT).is("deposit(6, 0, 1)", 3).is("answerOf(5)", 2);
        ready.copy().after("capture(5, 0, 1)", "hold(6, 0, 1, 1, 0)").refuses("capture(5, 1, 1)", Run.ARGUMENT);
        ready.copy().after("reverse(5, 0)").refuses("reverse(5, 1)", Run.ARGUMENT).is("reverse(6, 1)", 3);
        ready.copy().after("settle(5)").is("answerOf(5)", 2).after("addPayment(0, 1, 1)").is("settle(6)", 1);
        Run refused = ready.copy().refuses("withdraw(5, 0, 6000)", Run.UNSUPPORTED)
            .refuses("settle(1000)", Run.ARGUMENT);
        refused.refuses("answerOf(5)", Run.MISSING).refuses("answerOf(1000)", Run.MISSING).is("keys()", 1);
        refused.is("deposit(5, 1, 1)", 2).is("answerOf(5)", 2).is("keys()", 2);
        Run.usual().refuses("withdraw(1, 1, 5)", Run.UNSUPPORTED).after("deposit(2, 1, 5)").is("withdraw(1, 1, 5)", 3);
    }

    private static void repeatedCalls() {
        says("Keys", "If a call has a key that is remembered, and is of the same method with the same arguments");
        Run ready = readyForKeys();
        int[] answers = {2, 2, 2, 2, 1, 2, 2};
        for (int i = 0; i < KEYED.length; i++) {
            Run run = ready.copy().is(KEYED[i], answers[i]).same(KEYED[i], answers[i]).same(KEYED[i], answers[i]);
            run.after("deposit(6, 0, 77)", "setRate(0, 300)").same(KEYED[i], answers[i]);
            run.after("closeDay()").same(KEYED[i], answers[i]).after("closeDay()").same(KEYED[i], answers[i]);
        }
    }

    /** Each of the repeated calls would be refused now, if it were not a repeated one. */
    private static void repeatedThoughRefused() {
        Run.usual().after("withdraw(1, 0, 1000)").same("withdraw(1, 0, 1000)", 2);
        Run.usual().after("transfer(1, 0, 1, 1000)").same("transfer(1, 0, 1, 1000)", 2);
        Run.usual().after("transfer(1, 0, 2, 9)", "setRate(0, 100)").same("transfer(1, 0, 2, 9)", 2)
            .refuses("transfer(2, 0, 2, 9)", Run.UNSUPPORTED);
        Run.usual().after("hold(1, 0, 1, 1000, 0)").same("hold(1, 0, 1, 1000, 0)", 0);
        Run.usual().after("hold(1, 0, 1, 9, 0)", "capture(2, 0, 9)").same("capture(2, 0, 9)", 2)
            .same("hold(1, 0, 1, 9, 0)", 0).refuses("capture(3, 0, 9)", Run.MISSING);
        Run.usual().after("reverse(1, 0)").same("reverse(1, 0)", 2).refuses("reverse(2, 0)", Run.MISSING);
        Run.usual().after("addPayment(0, 1, 9)", "settle(1)").same("settle(1)", 1)
            .refuses("settle(2)", Run.UNSUPPORTED).after("addPayment(0, 1, 9)").same("settle(1)", 1);
    }

    private static void lifeOfAKey() {
        says("Keys", "A key is remembered up to the end of the second day after the day of the call");
        Run ready = readyForKeys();
        for (String call : KEYED) {
            Run run = ready.copy().after(call).after(2, "closeDay()").is("keys()", 2);
            run.refuses("deposit(5, 2, 9)", Run.ARGUMENT).copy().after(call).after("closeDay()").is("keys()", 0);
            run.after("closeDay()").is("keys()", 0).refuses("answerOf(5)", Run.MISSING).is("deposit(5, 2, 9)",
                call.startsWith("hold") ? 2 : call.startsWith("settle") ? 4 : 3);
            run.after(2, "closeDay()").refuses("deposit(5, 2, 8)", Run.ARGUMENT).is("keys()", 1);
            run.after("closeDay()").is("keys()", 0).is("hold(5, 2, 3, 8, 0)", call.startsWith("hold") ? 2 : 1);
        }
        Run first = Run.usual().after(2, "closeDay()").same("deposit(901, 0, 1000)", 0).is("answerOf(902)", 1);
        first.after("closeDay()").refuses("answerOf(901)", Run.MISSING).is("deposit(901, 0, 1000)", 2);
        first.is("balance(0)", 2000);
    }

    private static void days() {
        says("Days", "The day is initially 0.");
        new Run().is("day()", 0).is("closeDay()", 0).is("day()", 1);
        says("Days", "When a day is closed, the day increases by 1; then all active holds whose last day is less");
        for (int days = 0; days <= 20; days++) {
            Run run = Run.usual().after("closeDay()", "hold(1, 0, 1, 1000, " + days + ")").after(days, "closeDay()");
            run.is("day()", days + 1).is("stateOf(0)", 'a').is("lastDayOf(0)", days + 1).is("available(0)", 0);
            run.copy().is("capture(2, 0, 1000)", 2).is("closeDay()", 0).is("stateOf(0)", 'c');
            run.copy().is("release(0)", 1000).is("closeDay()", 0).is("stateOf(0)", 'r');
            run.is("closeDay()", 1).is("day()", days + 2).is("stateOf(0)", 'x').is("available(0)", 1000);
            run.refuses("capture(2, 0, 1000)", Run.MISSING).refuses("release(0)", Run.MISSING).is("closeDay()", 0);
        }
        Run keys = new Run("openAccount(0, 0)");
        for (int day = 0; day < 6; day++) {
            keys.is("keys()", Math.min(day, 2)).after("deposit(" + (day + 1) + ", 0, 1)");
            keys.is("keys()", Math.min(day, 2) + 1).is("closeDay()", 0);
        }
        keys.is("keys()", 2).refuses("answerOf(4)", Run.MISSING).is("answerOf(5)", 4).is("answerOf(6)", 5);
    }

    // ---- exceptions

    /** MeetingTests looks at all pairs of exceptions that can meet; these are the first ones at hand. */
    private static void exceptions() {
        says("Exceptions", "A method that throws an exception changes nothing.");
        Run run = Run.usual().refuses("openAccount(4, 0)", Run.ARGUMENT).refuses("setLimit(0, -1)", Run.ARGUMENT);
        run.refuses("setRate(0, 99)", Run.ARGUMENT).refuses("deposit(1, 4, 5)", Run.BOUNDS);
        run.refuses("withdraw(1, 0, 1001)", Run.UNSUPPORTED).refuses("transfer(1, 0, 1, 1001)", Run.UNSUPPORTED);
        run.refuses("hold(1, 0, 1, 1001, 0)", Run.UNSUPPORTED).refuses("capture(1, 0, 5)", Run.BOUNDS);
        run.refuses("release(0)", Run.BOUNDS).refuses("reverse(1, 2)", Run.BOUNDS)
            .refuses("settle(1)", Run.UNSUPPORTED);
        run.refuses("addPayment(0, 4, 5)", Run.BOUNDS).refuses("removePayment(0)", Run.BOUNDS);
        run.is("deposit(1, 0, 5)", 2).is("hold(2, 0, 1, 5, 0)", 0).is("addPayment(0, 1, 5)", 1);
        says("Exceptions", "If several exceptions apply, the one that is documented first is thrown.");
        run.refuses("setLimit(4, -1)", Run.BOUNDS).refuses("balanceAt(4, 1)", Run.BOUNDS);
        run.refuses("transfer(3, 4, 4, 5)", Run.ARGUMENT).refuses("hold(3, 0, 4, 1001, 0)", Run.BOUNDS);
        run.refuses("settle(0)", Run.ARGUMENT).refuses("addPayment(4, 4, 0)", Run.ARGUMENT);
    }
}
