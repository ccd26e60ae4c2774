import java.util.ArrayList;
import java.util.Arrays;
import java.util.LinkedHashMap;
import java.util.List;
import java.util.Map;

/**
 * "If several exceptions apply, the one that is documented first is thrown": for each method, every one,
 * two and three of its faults together, as far as they do not exclude each other. A call without a fault
 * must return, and every refused call must change nothing.
 */
public final class MeetingTests {
    private static final Document DOCUMENT = new Document();
    private static final int MOST_AT_ONCE = 3;
    // Stands among a fault's calls for as many deposits as there is room for.
    private static final String FULL_JOURNAL = "full journal";

    private final String method;
    private final int promise;
    private final Map<String, String> arguments = new LinkedHashMap<>();
    private final List<String> state = new ArrayList<>();
    private final List<Fault> faults = new ArrayList<>();

    /** What makes a call be refused: arguments, given as "payer=4 payee=4", and calls that come before it. */
    private record Fault(String exception, Map<String, String> arguments, List<String> calls) { }

    private MeetingTests(int promise, String method, String arguments) {
        this.promise = promise;
        this.method = method;
        this.arguments.putAll(named(arguments));
    }

    public static void main(String[] args) {
        DOCUMENT.says("Exceptions", "If several exceptions apply",
            "A method that throws an exception changes nothing.");
        openAccount().meet();
        setLimit().meet();
        deposit().meet();
        withdraw().meet();
        transfer().meet();
        hold().meet();
        capture().meet();
        reverse().meet();
        addPayment().meet();
        settle().meet();
        balanceAt().meet();
        insideOneFault();
        Run.end(List.of());
    }

    // ---- the methods and their faults

    private static MeetingTests openAccount() {
        return new MeetingTests(2, "openAccount", "currency=0 limit=0")
            .ranges("currency=-1", "currency=4", "limit=-1", "limit=1000001")
            .fault(Run.STATE, "", calls(6, "openAccount(1, 0)"));
    }

    private static MeetingTests setLimit() {
        return new MeetingTests(3, "setLimit", "account=0 limit=500")
            .given("setLimit(0, 900)")
            .bounds("account=-1", "account=4")
            .ranges("limit=-1", "limit=1000001")
            .fault(Run.UNSUPPORTED, "", "withdraw(30, 0, 1501)")
            .fault(Run.UNSUPPORTED, "", "hold(31, 0, 1, 1600, 0)");
    }

    private static MeetingTests deposit() {
        return new MeetingTests(5, "deposit", "key=5 account=0 amount=7")
            .keys()
            .ranges("amount=0", "amount=1000001")
            .bounds("account=-1", "account=4")
            .fault(Run.STATE, "", FULL_JOURNAL);
    }

    private static MeetingTests withdraw() {
        return new MeetingTests(6, "withdraw", "key=5 account=0 amount=7")
            .keys()
            .ranges("amount=0", "amount=1000001")
            .bounds("account=-1", "account=4")
            .fault(Run.UNSUPPORTED, "amount=1001")
            .fault(Run.UNSUPPORTED, "account=1")
            .fault(Run.UNSUPPORTED, "", "withdraw(30, 0, 994)")
            .fault(Run.STATE, "", FULL_JOURNAL);
    }

    private static MeetingTests transfer() {
        return new MeetingTests(7, "transfer", "key=5 payer=0 payee=1 amount=7")
            .keys()
            .ranges("amount=0", "amount=1000001")
            .ranges("payer=0 payee=0", "payer=1 payee=1", "payer=4 payee=4", "payer=-1 payee=-1")
            .bounds("payer=-1", "payer=4", "payee=-2", "payee=5")
            .fault(Run.UNSUPPORTED, "amount=1001")
            .fault(Run.UNSUPPORTED, "", "withdraw(30, 0, 994)")
            .fault(Run.UNSUPPORTED, "payee=2", "setRate(0, 100)")
            .fault(Run.STATE, "", FULL_JOURNAL);
    }

    private static MeetingTests hold() {
        return new MeetingTests(8, "hold", "key=5 payer=0 payee=1 amount=7 days=2")
            .keys()
            .ranges("amount=0", "amount=1000001", "days=-1", "days=21")
            .ranges("payer=0 payee=0", "payer=4 payee=4")
            .bounds("payer=-1", "payer=4", "payee=-2", "payee=5")
            .fault(Run.UNSUPPORTED, "amount=1001")
            .fault(Run.UNSUPPORTED, "", "withdraw(30, 0, 994)")
            .fault(Run.STATE, "", holds(30));
    }

    /** Hold 0 is active, 1 is released, 2 expired, and 3 is between two currencies. */
    private static MeetingTests capture() {
        return new MeetingTests(9, "capture", "key=5 hold=0 amount=7")
            .given("hold(20, 0, 1, 9, 5)", "hold(21, 0, 1, 9, 5)", "hold(22, 0, 1, 9, 0)", "hold(23, 0, 2, 9, 5)")
            .given("release(1)", "closeDay()")
            .keys()
            .ranges("amount=0", "amount=1000001")
            .bounds("hold=-1", "hold=4")
            .fault(Run.MISSING, "hold=1")
            .fault(Run.MISSING, "hold=2")
            .fault(Run.MISSING, "hold=0", "capture(30, 0, 1)")
            .fault(Run.MISSING, "hold=0", "release(0)")
            .fault(Run.UNSUPPORTED, "amount=10")
            .fault(Run.UNSUPPORTED, "hold=3", "setRate(0, 100)")
            .fault(Run.STATE, "", FULL_JOURNAL);
    }

    /** Transaction 0 is a deposit, 1 is reversed, and 2 is a reversal. */
    private static MeetingTests reverse() {
        return new MeetingTests(11, "reverse", "key=5 transaction=0")
            .given("reverse(20, 1)")
            .keys()
            .bounds("transaction=-1", "transaction=150")
            .fault(Run.MISSING, "transaction=1")
            .fault(Run.MISSING, "transaction=2")
            .fault(Run.MISSING, "transaction=0", "reverse(32, 0)", "deposit(33, 0, 10)")
            .fault(Run.UNSUPPORTED, "transaction=0", "withdraw(30, 0, 1)")
            .fault(Run.UNSUPPORTED, "transaction=0", "hold(31, 0, 1, 1, 0)")
            .fault(Run.STATE, "", FULL_JOURNAL);
    }

    private static MeetingTests addPayment() {
        return new MeetingTests(12, "addPayment", "payer=0 payee=1 amount=7")
            .ranges("amount=0", "amount=1000001", "payer=0 payee=0", "payer=1 payee=1", "payer=4 payee=4")
            .bounds("payer=-1", "payer=4", "payee=-2", "payee=5")
            .fault(Run.STATE, "", calls(12, "addPayment(2, 3, 5)"));
    }

    private static MeetingTests settle() {
        return new MeetingTests(14, "settle", "key=5")
            .given("addPayment(0, 2, 7)")
            .keys()
            .fault(Run.UNSUPPORTED, "", "removePayment(0)")
            .fault(Run.UNSUPPORTED, "", "withdraw(30, 0, 994)")
            .fault(Run.UNSUPPORTED, "", "setRate(0, 100)")
            .fault(Run.UNSUPPORTED, "", FULL_JOURNAL);
    }

    private static MeetingTests balanceAt() {
        return new MeetingTests(25, "balanceAt", "account=0 day=1")
            .given("closeDay()")
            .bounds("account=-1", "account=4")
            .ranges("day=-1", "day=2");
    }

    /** Two faults at once that one argument makes alone. */
    private static void insideOneFault() {
        Run run = Run.usual().after("hold(1, 0, 1, 5, 0)", "hold(2, 0, 2, 5, 0)", "setRate(0, 100)");
        run.refuses("withdraw(5, 1, 1000001)", Run.ARGUMENT).refuses("transfer(5, 0, 1, 1000001)", Run.ARGUMENT);
        run.refuses("hold(5, 0, 1, 1000001, 0)", Run.ARGUMENT).refuses("capture(5, 0, 1000001)", Run.ARGUMENT);
        run.refuses("transfer(5, 0, 2, 0)", Run.ARGUMENT).refuses("capture(5, 1, 0)", Run.ARGUMENT);
        run.refuses("capture(5, 1, 6)", Run.UNSUPPORTED).refuses("transfer(5, 1, 2, 9)", Run.UNSUPPORTED);
        run.after("setLimit(0, 1000000)", "withdraw(6, 0, 1000000)").refuses("setLimit(0, -1)", Run.ARGUMENT);
        run.refuses("setLimit(0, MIN)", Run.ARGUMENT).refuses("setLimit(0, 1000001)", Run.ARGUMENT);
        Run.usual().after("reverse(6, 0)").refuses("reverse(5, 0)", Run.MISSING).fillJournal(3, 150)
            .refuses("reverse(5, 0)", Run.MISSING).refuses("reverse(6, 1)", Run.ARGUMENT).same("reverse(6, 0)", 2);
    }

    // ---- how faults are given

    private MeetingTests given(String... calls) {
        state.addAll(List.of(calls));
        return this;
    }

    private MeetingTests fault(String exception, String changed, String... calls) {
        faults.add(new Fault(exception, named(changed), List.of(calls)));
        return this;
    }

    private MeetingTests ranges(String... changes) {
        for (String changed : changes) {
            fault(Run.ARGUMENT, changed);
        }
        return this;
    }

    private MeetingTests bounds(String... changes) {
        for (String changed : changes) {
            fault(Run.BOUNDS, changed);
        }
        return this;
    }

    private MeetingTests keys() {
        return ranges("key=0", "key=1000", "key=901").fault(Run.ARGUMENT, "", "deposit(5, 2, 1)");
    }

    private static String[] calls(int times, String call) {
        String[] calls = new String[times];
        Arrays.fill(calls, call);
        return calls;
    }

    private static String[] holds(int count) {
        String[] calls = new String[count];
        for (int i = 0; i < calls.length; i++) {
            calls[i] = "hold(" + (100 + i) + ", 2, 3, 1, 9)";
        }
        return calls;
    }

    private static Map<String, String> named(String arguments) {
        Map<String, String> named = new LinkedHashMap<>();
        for (String argument : arguments.split(" ")) {
            if (!argument.isEmpty()) {
                named.put(argument.split("=")[0], argument.split("=")[1]);
            }
        }
        return named;
    }

    // ---- how they meet

    private void meet() {
        usual(List.of()).after(call(List.of()));
        meet(new ArrayList<>(), 0);
    }

    private void meet(List<Fault> together, int next) {
        for (int i = next; i < faults.size() && together.size() < MOST_AT_ONCE; i++) {
            if (fits(together, faults.get(i))) {
                together.add(faults.get(i));
                usual(together).refuses(call(together), first(together));
                meet(together, i + 1);
                together.remove(together.size() - 1);
            }
        }
    }

    /** Two faults exclude each other that want an argument to be two things, or that are made alike by calls. */
    private static boolean fits(List<Fault> together, Fault more) {
        for (Fault fault : together) {
            for (String argument : fault.arguments.keySet()) {
                String wanted = more.arguments.getOrDefault(argument, fault.arguments.get(argument));
                if (!wanted.equals(fault.arguments.get(argument))) {
                    return false;
                }
            }
            if (!fault.calls.isEmpty() && !more.calls.isEmpty() && fault.exception.equals(more.exception)) {
                return false;
            }
        }
        return true;
    }

    private Run usual(List<Fault> together) {
        Run run = Run.usual().after(state.toArray(new String[0]));
        for (Fault fault : together) {
            for (String call : fault.calls) {
                if (call.equals(FULL_JOURNAL)) {
                    run.fillJournal(3, 150);
                } else {
                    run.after(call);
                }
            }
        }
        return run;
    }

    private String call(List<Fault> together) {
        Map<String, String> all = new LinkedHashMap<>(arguments);
        together.forEach(fault -> all.putAll(fault.arguments));
        return method + "(" + String.join(", ", all.values()) + ")";
    }

    /** The exception among them that the promise documents first. */
    private String first(List<Fault> together) {
        List<String> documented = DOCUMENT.exceptionsOf(promise);
        int least = documented.size() - 1;
        for (Fault fault : together) {
            least = Math.min(least, documented.indexOf(fault.exception));
        }
        return documented.get(least);
    }
}
