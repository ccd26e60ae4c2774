import java.util.ArrayList;
import java.util.HashMap;
import java.util.List;
import java.util.Map;
import java.util.NoSuchElementException;
import java.util.Objects;
import java.util.Random;
import java.util.TreeMap;
import java.util.concurrent.Callable;

/**
 * Long runs of calls, drawn with fixed seeds, on the class and on a model that keeps nothing but what was
 * done and works every answer out anew. The two must answer alike, exceptions included.
 */
public final class RandomRunTests {
    private static final int RUNS = 1500;
    private static final int CALLS = 512;
    // Each method that returned, and each exception that the document names for it; the two kinds of
    // house accounts count as two methods. Fewer would mean that the runs leave something out.
    private static final int KINDS_OF_ANSWERS = 103;
    private static final int[] ODD = {Integer.MIN_VALUE, -2, -1, 0, 1, 10, 11, 21, 99, 100, 999, 1000, 1001,
        1000000, 1000001, Integer.MAX_VALUE};

    private static int wrong = 0;
    private static final Map<String, Integer> seen = new TreeMap<>();

    private RandomRunTests() {
    }

    public static void main(String[] args) {
        for (int seed = 0; seed < RUNS && wrong < 10; seed++) {
            new Run(seed).play();
        }
        System.out.println(RUNS + " runs, " + seen.size() + " kinds of answers, " + wrong + " wrong");
        if (wrong == 0 && seen.size() != KINDS_OF_ANSWERS) {
            seen.forEach((what, count) -> System.out.println(count + " x " + what));
            System.exit(1);
        }
        if (wrong != 0) {
            System.exit(1);
        }
    }

    /** A model of the document: lists of what happened, and questions answered from them. */
    private static final class Model {
        record Account(int currency) { }

        record Transaction(char kind, int payer, int payee, int paid, int received, int day) { }

        record Payment(int payer, int payee, int amount) { }

        record Remembered(List<Object> call, int answer, int day) { }

        static final class Hold {
            int payer;
            int payee;
            int amount;
            int lastDay;
            char state = 'a';
        }

        final List<Account> accounts = new ArrayList<>();
        final List<Integer> limits = new ArrayList<>();
        final int[] rates = {1000, 1000, 1000, 1000};
        final List<Transaction> journal = new ArrayList<>();
        final Map<Integer, Integer> reversals = new HashMap<>();
        final List<Hold> holds = new ArrayList<>();
        final List<Payment> batch = new ArrayList<>();
        final Map<Integer, Remembered> keys = new HashMap<>();
        int day = 0;

        static void unless(boolean fine, RuntimeException refusal) {
            if (!fine) {
                throw refusal;
            }
        }

        void argument(boolean fine) {
            unless(fine, new IllegalArgumentException());
        }

        void bounds(int index, int size) {
            unless(index >= 0 && index < size, new IndexOutOfBoundsException());
        }

        void unsupported(boolean fine) {
            unless(fine, new UnsupportedOperationException());
        }

        void state(boolean fine) {
            unless(fine, new IllegalStateException());
        }

        void present(boolean fine) {
            unless(fine, new NoSuchElementException());
        }

        boolean within(int number, int least, int most) {
            return least <= number && number <= most;
        }

        interface Body {
            int run();
        }

        int keyed(int key, List<Object> call, Body body) {
            Remembered earlier = keys.get(key);
            if (earlier != null && earlier.call.equals(call)) {
                return earlier.answer;
            }
            argument(within(key, 1, 999) && earlier == null);
            int answer = body.run();
            keys.put(key, new Remembered(call, answer, day));
            return answer;
        }

        int currency(int account) {
            return accounts.get(account).currency;
        }

        int convert(int payer, int payee, int paid) {
            int from = currency(payer);
            int to = currency(payee);
            return from == to ? paid : (int) Math.floorDiv((long) paid * rates[from], (long) rates[to]);
        }

        long balanceUpTo(int account, int lastDay) {
            long sum = 0;
            for (Transaction t : journal) {
                if (t.day <= lastDay) {
                    sum += (t.payee == account ? t.received : 0) - (t.payer == account ? t.paid : 0);
                }
            }
            return sum;
        }

        long free(int account) {
            long held = holds.stream().filter(h -> h.state == 'a' && h.payer == account)
                .mapToLong(h -> h.amount).sum();
            return balanceUpTo(account, day) + limits.get(account) - held;
        }

        int record(char kind, int payer, int payee, int paid, int received) {
            journal.add(new Transaction(kind, payer, payee, paid, received, day));
            return journal.size() - 1;
        }

        int openAccount(int currency, int limit) {
            argument(within(currency, 0, 3) && within(limit, 0, 1000000));
            state(accounts.size() < 10);
            accounts.add(new Account(currency));
            limits.add(limit);
            return accounts.size() - 1;
        }

        int setLimit(int account, int limit) {
            bounds(account, accounts.size());
            argument(within(limit, 0, 1000000));
            unsupported(free(account) - limits.get(account) + limit >= 0);
            return limits.set(account, limit);
        }

        int setRate(int currency, int rate) {
            argument(within(currency, 0, 3) && within(rate, 100, 1000));
            int before = rates[currency];
            rates[currency] = rate;
            return before;
        }

        int deposit(int key, int account, int amount) {
            return keyed(key, List.of("deposit", account, amount), () -> {
                argument(within(amount, 1, 1000000));
                bounds(account, accounts.size());
                state(journal.size() < 150);
                return record('d', -1, account, amount, amount);
            });
        }

        int withdraw(int key, int account, int amount) {
            return keyed(key, List.of("withdraw", account, amount), () -> {
                argument(within(amount, 1, 1000000));
                bounds(account, accounts.size());
                unsupported(amount <= free(account));
                state(journal.size() < 150);
                return record('w', account, -1, amount, amount);
            });
        }

        int transfer(int key, int payer, int payee, int amount) {
            return keyed(key, List.of("transfer", payer, payee, amount), () -> {
                argument(within(amount, 1, 1000000) && payer != payee);
                bounds(payer, accounts.size());
                bounds(payee, accounts.size());
                unsupported(amount <= free(payer) && convert(payer, payee, amount) > 0);
                state(journal.size() < 150);
                return record('t', payer, payee, amount, convert(payer, payee, amount));
            });
        }

        int hold(int key, int payer, int payee, int amount, int days) {
            return keyed(key, List.of("hold", payer, payee, amount, days), () -> {
                argument(within(amount, 1, 1000000) && within(days, 0, 20) && payer != payee);
                bounds(payer, accounts.size());
                bounds(payee, accounts.size());
                unsupported(amount <= free(payer));
                state(holds.size() < 30);
                Hold made = new Hold();
                made.payer = payer;
                made.payee = payee;
                made.amount = amount;
                made.lastDay = day + days;
                holds.add(made);
                return holds.size() - 1;
            });
        }

        int capture(int key, int hold, int amount) {
            return keyed(key, List.of("capture", hold, amount), () -> {
                argument(within(amount, 1, 1000000));
                bounds(hold, holds.size());
                Hold held = holds.get(hold);
                present(held.state == 'a');
                int received = convert(held.payer, held.payee, amount);
                unsupported(amount <= held.amount && received > 0);
                state(journal.size() < 150);
                held.state = 'c';
                return record('c', held.payer, held.payee, amount, received);
            });
        }

        int release(int hold) {
            bounds(hold, holds.size());
            present(holds.get(hold).state == 'a');
            holds.get(hold).state = 'r';
            return holds.get(hold).amount;
        }

        int reverse(int key, int transaction) {
            return keyed(key, List.of("reverse", transaction), () -> {
                bounds(transaction, journal.size());
                Transaction t = journal.get(transaction);
                present(t.kind != 'r' && !reversals.containsKey(transaction));
                unsupported(t.payee == -1 || free(t.payee) >= t.received);
                state(journal.size() < 150);
                reversals.put(transaction, journal.size());
                return record('r', t.payee, t.payer, t.received, t.paid);
            });
        }

        int addPayment(int payer, int payee, int amount) {
            argument(within(amount, 1, 1000000) && payer != payee);
            bounds(payer, accounts.size());
            bounds(payee, accounts.size());
            state(batch.size() < 12);
            batch.add(new Payment(payer, payee, amount));
            return batch.size();
        }

        int removePayment(int index) {
            bounds(index, batch.size());
            return batch.remove(index).amount;
        }

        long net(int account, int count) {
            return batch.stream().limit(count).mapToLong(p -> (p.payee == account
                ? convert(p.payer, p.payee, p.amount) : 0) - (p.payer == account ? p.amount : 0)).sum();
        }

        boolean isSettled(int count) {
            boolean fits = journal.size() + count <= 150
                && batch.stream().limit(count).allMatch(p -> convert(p.payer, p.payee, p.amount) >= 1);
            for (int account = 0; fits && account < accounts.size(); account++) {
                fits = free(account) + net(account, count) >= 0;
            }
            return fits;
        }

        int cut() {
            int count = batch.size();
            while (count > 0 && !isSettled(count)) {
                count--;
            }
            return count;
        }

        int settle(int key) {
            return keyed(key, List.of("settle"), () -> {
                int count = cut();
                unsupported(count > 0);
                for (int i = 0; i < count; i++) {
                    Payment p = batch.remove(0);
                    record('b', p.payer, p.payee, p.amount, convert(p.payer, p.payee, p.amount));
                }
                return count;
            });
        }

        int closeDay() {
            day++;
            int expired = 0;
            for (Hold held : holds) {
                if (held.state == 'a' && held.lastDay < day) {
                    held.state = 'x';
                    expired++;
                }
            }
            keys.values().removeIf(remembered -> remembered.day == day - 3);
            return expired;
        }

        long netOf(int account) {
            bounds(account, accounts.size());
            return net(account, cut());
        }

        long balance(int account) {
            bounds(account, accounts.size());
            return balanceUpTo(account, day);
        }

        long available(int account) {
            bounds(account, accounts.size());
            return free(account);
        }

        long balanceAt(int account, int asked) {
            bounds(account, accounts.size());
            argument(within(asked, 0, day));
            return balanceUpTo(account, asked);
        }

        long houseBalance(int currency, boolean isExchange) {
            argument(within(currency, 0, 3));
            long sum = 0;
            for (Transaction t : journal) {
                int from = currency(t.payer == -1 ? t.payee : t.payer);
                int to = currency(t.payee == -1 ? t.payer : t.payee);
                if (isExchange && from != to) {
                    sum += (from == currency ? t.paid : 0) - (to == currency ? t.received : 0);
                }
                if (!isExchange && to == currency) {
                    sum += (t.payee == -1 ? t.received : 0) - (t.payer == -1 ? t.paid : 0);
                }
            }
            return sum;
        }

        long worth(int account) {
            return balance(account) * rates[currency(account)];
        }

        Transaction transaction(int transaction) {
            bounds(transaction, journal.size());
            return journal.get(transaction);
        }

        int party(int account) {
            present(account != -1);
            return account;
        }

        int reversalOf(int transaction) {
            transaction(transaction);
            present(reversals.containsKey(transaction));
            return reversals.get(transaction);
        }

        Hold held(int hold) {
            bounds(hold, holds.size());
            return holds.get(hold);
        }

        int answerOf(int key) {
            present(keys.containsKey(key));
            return keys.get(key).answer;
        }

        void filled() {
            unless(!journal.isEmpty(), new ArithmeticException());
        }

        float reversedShare() {
            filled();
            return (float) reversals.size() / (float) journal.size();
        }

        double meanPaid() {
            filled();
            return (double) journal.stream().mapToLong(Transaction::paid).sum() / (double) journal.size();
        }
    }

    /** One run: a new object, a new model, and calls drawn by a seed. */
    private static final class Run {
        private final int seed;
        private final Random random;
        private final LedgerStream x = new LedgerStream();
        private final Model m = new Model();
        private final List<String> told = new ArrayList<>();
        private final int greatest;
        private final int odds;
        private final int questions;
        private final int[] last = new int[6];

        Run(int seed) {
            this.seed = seed;
            random = new Random(seed);
            greatest = new int[] {3, 30, 1000, 1000000}[random.nextInt(4)];
            odds = new int[] {5, 20, 200}[random.nextInt(3)];
            questions = random.nextInt(60);
        }

        void play() {
            for (int i = 0; i < CALLS && wrong < 10; i++) {
                if (i < 3 || random.nextInt(40) == 0) {
                    open();
                } else if (random.nextInt(100) < questions) {
                    ask();
                } else if (random.nextInt(25) == 0) {
                    again();
                } else {
                    act(random.nextInt(100));
                }
            }
        }

        // ---- what is drawn

        int drawn(int least, int most) {
            if (random.nextInt(odds) == 0) {
                return ODD[random.nextInt(ODD.length)];
            }
            return least + random.nextInt(Math.max(1, most - least + 1));
        }

        int account() {
            return drawn(0, m.accounts.size() - 1);
        }

        int amount() {
            return random.nextInt(6) == 0 ? drawn(1, 1000000) : drawn(1, greatest);
        }

        int key() {
            return drawn(1, 999);
        }

        int rate() {
            return random.nextBoolean() ? drawn(100, 1000) : drawn(1, 10) * 100;
        }

        // ---- what is called

        void open() {
            int currency = drawn(0, 3);
            int limit = random.nextBoolean() ? 0 : drawn(0, greatest);
            same("openAccount", () -> x.openAccount(currency, limit), () -> m.openAccount(currency, limit),
                currency, limit);
        }

        void act(int dice) {
            if (dice < 14) {
                keep(0, key(), account(), amount(), 0, 0);
            } else if (dice < 22) {
                keep(1, key(), account(), amount(), 0, 0);
            } else if (dice < 36) {
                keep(2, key(), account(), account(), amount(), 0);
            } else if (dice < 46) {
                keep(3, key(), account(), account(), amount(), drawn(0, random.nextInt(21)));
            } else if (dice < 54) {
                keep(4, key(), drawn(0, m.holds.size() - 1), amount(), 0, 0);
            } else if (dice < 62) {
                keep(5, key(), drawn(0, m.journal.size() - 1), 0, 0, 0);
            } else if (dice < 66) {
                keep(6, key(), 0, 0, 0, 0);
            } else {
                actWithoutKey(dice);
            }
        }

        void actWithoutKey(int dice) {
            int a = account();
            int b = account();
            int n = amount();
            if (dice < 83) {
                same("addPayment", () -> x.addPayment(a, b, n), () -> m.addPayment(a, b, n), a, b, n);
            } else if (dice < 85) {
                int index = drawn(0, m.batch.size());
                same("removePayment", () -> x.removePayment(index), () -> m.removePayment(index), index);
            } else if (dice < 88) {
                int hold = drawn(0, m.holds.size());
                same("release", () -> x.release(hold), () -> m.release(hold), hold);
            } else if (dice < 91) {
                same("setLimit", () -> x.setLimit(a, n), () -> m.setLimit(a, n), a, n);
            } else if (dice < 95) {
                int currency = drawn(0, 3);
                int rate = rate();
                same("setRate", () -> x.setRate(currency, rate), () -> m.setRate(currency, rate), currency, rate);
            } else {
                same("closeDay", () -> x.closeDay(), () -> m.closeDay());
            }
        }

        void keep(int... call) {
            System.arraycopy(call, 0, last, 0, 6);
            callLast();
        }

        /** The last call with a key once more, or with one thing changed. */
        void again() {
            int changed = random.nextInt(12);
            if (changed < 6) {
                last[changed] = changed == 0 ? random.nextInt(7) : last[changed] + 1;
            }
            callLast();
        }

        void callLast() {
            int k = last[1];
            int a = last[2];
            int b = last[3];
            int c = last[4];
            int d = last[5];
            switch (last[0]) {
                case 0 -> same("deposit", () -> x.deposit(k, a, b), () -> m.deposit(k, a, b), k, a, b);
                case 1 -> same("withdraw", () -> x.withdraw(k, a, b), () -> m.withdraw(k, a, b), k, a, b);
                case 2 -> same("transfer", () -> x.transfer(k, a, b, c), () -> m.transfer(k, a, b, c), k, a, b, c);
                case 3 -> same("hold", () -> x.hold(k, a, b, c, d), () -> m.hold(k, a, b, c, d), k, a, b, c, d);
                case 4 -> same("capture", () -> x.capture(k, a, b), () -> m.capture(k, a, b), k, a, b);
                case 5 -> same("reverse", () -> x.reverse(k, a), () -> m.reverse(k, a), k, a);
                default -> same("settle", () -> x.settle(k), () -> m.settle(k), k);
            }
        }

        void ask() {
            int a = account();
            int t = drawn(0, m.journal.size());
            int h = drawn(0, m.holds.size());
            int d = drawn(0, m.day + 1);
            int k = m.keys.isEmpty() || random.nextInt(4) == 0 ? key() : m.keys.keySet().iterator().next();
            int c = drawn(0, 3);
            boolean e = random.nextBoolean();
            switch (random.nextInt(26)) {
                case 0 -> same("batchSize", () -> x.batchSize(), () -> m.batch.size());
                case 1 -> same("cut", () -> x.cut(), () -> m.cut());
                case 2 -> same("cutByTrying", () -> x.cutByTrying(), () -> m.cut());
                case 3 -> same("netOf", () -> x.netOf(a), () -> m.netOf(a), a);
                case 4 -> same("accounts", () -> x.accounts(), () -> m.accounts.size());
                case 5 -> same("day", () -> x.day(), () -> m.day);
                case 6 -> same("balance", () -> x.balance(a), () -> m.balance(a), a);
                case 7 -> same("available", () -> x.available(a), () -> m.available(a), a);
                case 8 -> same("balanceByReplay", () -> x.balanceByReplay(a), () -> m.balance(a), a);
                case 9 -> same("balanceAt", () -> x.balanceAt(a, d), () -> m.balanceAt(a, d), a, d);
                case 10 -> same("exchange", () -> x.houseBalance(c, true), () -> m.houseBalance(c, true), c);
                case 11 -> same("outside", () -> x.houseBalance(c, false), () -> m.houseBalance(c, false), c);
                case 12 -> same("worth", () -> x.worth(a), () -> m.worth(a), a);
                case 13 -> same("transactions", () -> x.transactions(), () -> m.journal.size());
                case 14 -> same("kindOf", () -> x.kindOf(t), () -> m.transaction(t).kind, t);
                case 15 -> same("payerOf", () -> x.payerOf(t), () -> m.party(m.transaction(t).payer), t);
                case 16 -> same("payeeOf", () -> x.payeeOf(t), () -> m.party(m.transaction(t).payee), t);
                case 17 -> same("paidOf", () -> x.paidOf(t), () -> m.transaction(t).paid, t);
                case 18 -> same("receivedOf", () -> x.receivedOf(t), () -> m.transaction(t).received, t);
                case 19 -> same("reversalOf", () -> x.reversalOf(t), () -> m.reversalOf(t), t);
                case 20 -> same("stateOf", () -> x.stateOf(h), () -> m.held(h).state, h);
                case 21 -> same("lastDayOf", () -> x.lastDayOf(h), () -> m.held(h).lastDay, h);
                case 22 -> same("keys", () -> x.keys(), () -> m.keys.size());
                case 23 -> same("answerOf", () -> x.answerOf(k), () -> m.answerOf(k), k);
                case 24 -> same("isBalanced", () -> x.isBalanced(), () -> true);
                default -> askForMeans(e);
            }
        }

        void askForMeans(boolean share) {
            if (share) {
                same("reversedShare", () -> x.reversedShare(), () -> m.reversedShare());
            } else {
                same("meanPaid", () -> x.meanPaid(), () -> m.meanPaid());
            }
        }

        // ---- how answers are compared

        void same(String method, Callable<?> asked, Callable<?> due, int... arguments) {
            StringBuilder call = new StringBuilder(method);
            for (int argument : arguments) {
                call.append(' ').append(argument);
            }
            Object got = outcome(asked);
            Object wanted = outcome(due);
            told.add(call + " -> " + got);
            seen.merge(method + (got instanceof String ? " refused: " + got : " returned"), 1, Integer::sum);
            if (!Objects.equals(got, wanted)) {
                wrong++;
                System.out.println("seed " + seed + ", call " + told.size() + ": due is " + wanted);
                told.subList(Math.max(0, told.size() - 30), told.size()).forEach(System.out::println);
            }
        }

        Object outcome(Callable<?> body) {
            try {
                return body.call();
            } catch (Exception thrown) {
                // The machine's own exception of a division must not pass for one that was thrown on purpose.
                return thrown.getClass().getName() + ("/ by zero".equals(thrown.getMessage()) ? " /0" : "");
            }
        }
    }
}
