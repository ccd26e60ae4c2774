import java.lang.reflect.InvocationTargetException;
import java.lang.reflect.Method;
import java.lang.reflect.Modifier;
import java.util.ArrayList;
import java.util.Arrays;
import java.util.HashMap;
import java.util.List;
import java.util.Map;

/**
 * A run of calls on one new ledger, each call written as a text: "deposit(1, 0, 5)"; MIN and MAX stand for
 * the least and the greatest int. What a call changed is found by comparing all that can be asked of a
 * ledger with the call, and of one without it.
 */
final class Run {
    static final String ARGUMENT = "IllegalArgumentException";
    static final String STATE = "IllegalStateException";
    static final String BOUNDS = "IndexOutOfBoundsException";
    static final String UNSUPPORTED = "UnsupportedOperationException";
    static final String MISSING = "NoSuchElementException";
    static final String ARITHMETIC = "ArithmeticException";

    private static final Map<String, Method> FACE = new HashMap<>();
    // What can be asked of a ledger behind the same calls is the same; it is worked out once.
    private static final Map<String, String> ANSWERS = new HashMap<>();
    private static final int MOST_TOLD = 30;
    private static int checks = 0;
    private static int wrong = 0;

    static {
        for (Method method : LedgerStream.class.getDeclaredMethods()) {
            if (Modifier.isPublic(method.getModifiers())) {
                FACE.put(method.getName(), method);
            }
        }
    }

    private final LedgerStream ledger = new LedgerStream();
    // The calls that may have changed something: those that returned.
    private final List<String> returned = new ArrayList<>();

    Run(String... calls) {
        after(calls);
    }

    /** Accounts 0 and 1 in currency 0, 2 in 1, 3 in 2, without limits; 1000 in each of 0 and 2. */
    static Run usual() {
        return new Run("openAccount(0, 0)", "openAccount(0, 0)", "openAccount(1, 0)", "openAccount(2, 0)",
            "deposit(901, 0, 1000)", "deposit(902, 2, 1000)");
    }

    static void end(List<String> leftOut) {
        leftOut.forEach(sentence -> tell("left out: " + sentence));
        System.out.println(checks + " checks, " + wrong + " wrong");
        if (wrong != 0 || checks == 0) {
            System.exit(1);
        }
    }

    private static void tell(String fault) {
        wrong++;
        if (wrong <= MOST_TOLD) {
            System.out.println(fault);
        }
    }

    // ---- what a test says

    /** Calls that must return; what they answer is of no matter here. */
    Run after(String... calls) {
        for (String call : calls) {
            Object answer = answer(ledger, call);
            returned.add(call);
            if (answer instanceof Refusal) {
                tell(this + " ended early, with " + answer);
            }
        }
        return this;
    }

    Run after(int times, String call) {
        for (int i = 0; i < times; i++) {
            after(call);
        }
        return this;
    }

    /** Deposits of 1 into an account until the journal has so many transactions; keys 301 to 450 are used. */
    Run fillJournal(int account, int size) {
        for (int key = 301; key <= 450 && ledger.transactions() < size; key++) {
            after("deposit(" + key + ", " + account + ", 1)");
        }
        return this;
    }

    int transactions() {
        return ledger.transactions();
    }

    Run copy() {
        return new Run(returned.toArray(new String[0]));
    }

    /** The answer that a call must give. */
    Run is(String call, Object due) {
        Object answer = answer(ledger, call);
        returned.add(call);
        check(call, answer, due);
        return this;
    }

    /** A call that must answer, and change nothing: a question, or a repeated call. */
    Run same(String call, Object due) {
        check(call, answer(ledger, call), due);
        changesNothing(call);
        return this;
    }

    /** A call that must throw the one exception, and change nothing. */
    Run refuses(String call, String exception) {
        check(call, answer(ledger, call), new Refusal(exception));
        changesNothing(call);
        return this;
    }

    /**
     * A call in which # stands for a number from least to greatest: the two and some between them must
     * return, on ledgers of their own; those just beside the two, and the ends of int, are refused.
     */
    Run range(String call, int least, int greatest, String exception) {
        for (int fine : new int[] {least, Math.min(least + 1, greatest), (least + greatest) / 2, greatest}) {
            Object answer = answer(copy().ledger, with(call, fine));
            check(with(call, fine) + " returns", answer instanceof Refusal, false);
        }
        for (int odd : new int[] {least - 1, greatest + 1, Integer.MIN_VALUE, Integer.MAX_VALUE}) {
            refuses(with(call, odd), exception);
        }
        return this;
    }

    /** A call in which # stands for the number of a thing, of which there are so many. */
    Run indexes(String call, int size) {
        for (int odd : new int[] {-1, size, size + 1, Integer.MIN_VALUE, Integer.MAX_VALUE}) {
            refuses(with(call, odd), BOUNDS);
        }
        for (int fine = 0; fine < size; fine++) {
            Object answer = answer(copy().ledger, with(call, fine));
            check(with(call, fine) + " finds it", new Refusal(BOUNDS).equals(answer), false);
        }
        return this;
    }

    private static String with(String call, int number) {
        return call.replace("#", Integer.toString(number));
    }

    // ---- how it is checked

    private void check(String call, Object answer, Object due) {
        checks++;
        if (!String.valueOf(answer).equals(String.valueOf(due))) {
            tell(this + ": " + call + " answered " + answer + ", due is " + due);
        }
    }

    private void changesNothing(String call) {
        String[] due = ANSWERS.computeIfAbsent(returned.toString(), calls -> allAnswers(null)).split("\n");
        String[] answers = allAnswers(call).split("\n");
        int same = Arrays.mismatch(answers, due);
        check("what was asked behind " + call, same < 0 || same >= answers.length ? answers.length : answers[same],
            same < 0 || same >= due.length ? due.length : due[same]);
    }

    /** A ledger behind this run's calls, and one call more if it is given. */
    private LedgerStream twin(String call) {
        LedgerStream twin = copy().ledger;
        if (call != null) {
            answer(twin, call);
        }
        return twin;
    }

    @Override
    public String toString() {
        int from = Math.max(0, returned.size() - 12);
        return (from == 0 ? "" : "[" + from + " calls] ") + returned.subList(from, returned.size());
    }

    /** What a call threw. The whole name counts, so no exception of the machine's own passes. */
    private record Refusal(String exception) {
        @Override
        public String toString() {
            return "throws." + exception;
        }
    }

    private static Object answer(LedgerStream ledger, String call) {
        String[] words = call.replaceAll("[(), ]+", " ").strip().split(" ");
        Method method = FACE.get(words[0]);
        Object[] arguments = new Object[words.length - 1];
        for (int i = 0; i < arguments.length; i++) {
            arguments[i] = argument(words[i + 1]);
        }
        return answer(ledger, method, arguments);
    }

    private static Object answer(LedgerStream ledger, Method method, Object... arguments) {
        try {
            return method.invoke(ledger, arguments);
        } catch (InvocationTargetException thrown) {
            return new Refusal(thrown.getCause().getClass().getSimpleName());
        } catch (IllegalAccessException impossible) {
            throw new IllegalStateException(impossible);
        }
    }

    private static Object argument(String word) {
        return switch (word) {
            case "true" -> true;
            case "false" -> false;
            case "MIN" -> Integer.MIN_VALUE;
            case "MAX" -> Integer.MAX_VALUE;
            default -> Integer.valueOf(word);
        };
    }

    // ---- all that can be asked

    /**
     * Each half is asked of a ledger of its own, so that a question which changed something could not do so
     * for both. The class counts no calls, so they may go beyond the 512th.
     */
    private String allAnswers(String call) {
        StringBuilder all = new StringBuilder();
        askAll(twin(call), all);
        askByChanging(twin(call), all);
        return all.toString();
    }

    private static void askAll(LedgerStream ledger, StringBuilder all) {
        for (String question : List.of("accounts", "day", "batchSize", "cut", "cutByTrying", "transactions", "keys",
                "isBalanced", "reversedShare", "meanPaid")) {
            ask(ledger, all, question);
        }
        for (int account = 0; account < ledger.accounts(); account++) {
            for (String question : List.of("balance", "available", "balanceByReplay", "netOf", "worth")) {
                ask(ledger, all, question, account);
            }
            for (int day = 0; day <= ledger.day(); day++) {
                ask(ledger, all, "balanceAt", account, day);
            }
        }
        for (int i = 0; i < 4; i++) {
            ask(ledger, all, "houseBalance", i, true);
            ask(ledger, all, "houseBalance", i, false);
        }
        for (int i = 0; i < ledger.transactions(); i++) {
            for (String question : List.of("kindOf", "payerOf", "payeeOf", "paidOf", "receivedOf", "reversalOf")) {
                ask(ledger, all, question, i);
            }
        }
        for (int hold = 0; hold < 30; hold++) {
            ask(ledger, all, "stateOf", hold);
            ask(ledger, all, "lastDayOf", hold);
        }
        askForKeys(ledger, all);
    }

    /** Only what is remembered is written down: most keys are not, and the answers of many runs are kept. */
    private static void askForKeys(LedgerStream ledger, StringBuilder all) {
        for (int key = 0; key <= 1000; key++) {
            if (!(answer(ledger, FACE.get("answerOf"), key) instanceof Refusal)) {
                ask(ledger, all, "answerOf", key);
            }
        }
    }

    /** Limits, rates, the payments and the holds' amounts show only in what calls on them answer. */
    private static void askByChanging(LedgerStream ledger, StringBuilder all) {
        for (int account = 0; account < ledger.accounts(); account++) {
            ask(ledger, all, "setLimit", account, 1000000);
        }
        for (int hold = 0; hold < 30; hold++) {
            ask(ledger, all, "release", hold);
        }
        for (int payments = ledger.batchSize(); payments > 0; payments--) {
            for (int account = 0; account < ledger.accounts(); account++) {
                ask(ledger, all, "netOf", account);
            }
            ask(ledger, all, "removePayment", payments - 1);
        }
        for (int currency = 0; currency < 4; currency++) {
            ask(ledger, all, "setRate", currency, 500);
        }
        for (int day = 0; day < 3; day++) {
            ask(ledger, all, "closeDay");
            ask(ledger, all, "keys");
        }
        askForKeys(ledger, all);
        ask(ledger, all, "openAccount", 0, 0);
        ask(ledger, all, "deposit", 1, 0, 1);
    }

    private static void ask(LedgerStream ledger, StringBuilder all, String question, Object... arguments) {
        all.append(question).append(Arrays.toString(arguments)).append(' ');
        all.append(answer(ledger, FACE.get(question), arguments)).append('\n');
    }
}
