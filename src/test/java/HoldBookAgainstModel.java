import java.util.ArrayList;
import java.util.List;
import java.util.Random;

/** Long runs of calls, each answer compared with that of a plain model that goes tick by tick. */
public final class HoldBookAgainstModel {
    private static final int RUNS = 3000;
    private static final int CALLS = 400;
    private static final long ARGUMENT = Long.MIN_VALUE;
    private static final long ILLEGAL_STATE = Long.MIN_VALUE + 1;
    private static final long ANOTHER_THROW = Long.MIN_VALUE + 2;
    private static final long MOST = 1000000000000L;

    private static int wrong = 0;
    /** How often each answer below 0 came, so that a run that never reaches one is seen. */
    private static final int[] refused = new int[16];

    private interface Call {
        long answer();
    }

    public static void main(String[] args) {
        for (int run = 0; run < RUNS && wrong == 0; run++) {
            new Run(run).go();
        }
        int[] reached = {HoldBook.FULL, HoldBook.NOWHERE, HoldBook.DOUBLE, HoldBook.STATE, HoldBook.LATE,
            HoldBook.MUCH, HoldBook.POOR};
        for (int code : reached) {
            if (wrong == 0 && refused[-code] == 0) {
                wrong++;
                System.out.println("no run ever reached the answer " + code);
            }
        }
        System.out.println(wrong == 0 ? "all runs agree with the model" : "a run does not agree with the model");
        if (wrong != 0) {
            System.exit(1);
        }
    }

    /** The document's words, one after another: every sum is made anew from the payments. */
    private static final class Model {
        final int hold;
        final int patience;
        final List<long[]> accounts = new ArrayList<>();
        final List<Item> items = new ArrayList<>();
        int time = 0;

        Model(int hold, int patience) {
            this.hold = hold < 1 ? 1 : hold > 5000 ? 5000 : hold;
            this.patience = patience < 1 ? 1 : patience > 5000 ? 5000 : patience;
        }

        static final class Item {
            int key;
            int account = -1;
            String state = "RELEASED";
            long held;
            long cleared;
            int until;
            int since;
            String dispute = "none";
            long amount;
            int deadline;

            boolean isOpen() {
                return dispute.equals("CHARGED") || dispute.equals("REPRESENTED");
            }
        }

        Item item(int key) {
            for (Item item : items) {
                if (item.key == key) {
                    return item;
                }
            }
            return null;
        }

        boolean isKey(int key) {
            return key >= 0 && key <= 1000000;
        }

        long heldOf(int account) {
            return items.stream().filter(i -> i.account == account).mapToLong(i -> i.held).sum();
        }

        long lockedOf(int account) {
            return items.stream().filter(i -> i.account == account && i.isOpen()).mapToLong(i -> i.amount).sum();
        }

        long freeOf(int account) {
            long[] row = accounts.get(account);
            return row[0] - row[1] - heldOf(account) - lockedOf(account);
        }

        long account(long balance, long minimum) {
            if (balance < -MOST || balance > MOST || minimum < -MOST || minimum > 0) {
                return ARGUMENT;
            }
            if (accounts.size() == 16) {
                return ILLEGAL_STATE;
            }
            accounts.add(new long[] {balance, minimum});
            return accounts.size() - 1;
        }

        long ask(int key, int account, long amount, boolean part) {
            if (!isKey(key) || account < 0 || account >= accounts.size() || amount < 1 || amount > MOST) {
                return ARGUMENT;
            }
            if (item(key) != null) {
                return -8;
            }
            if (items.size() == 60) {
                return -2;
            }
            long free = freeOf(account);
            long held;
            if (amount <= free) {
                held = amount;
            } else if (part && free > 0) {
                held = free;
            } else {
                return -12;
            }
            Item item = new Item();
            item.key = key;
            item.account = account;
            item.state = "HELD";
            item.held = held;
            item.until = time + hold;
            items.add(item);
            return held;
        }

        long clear(int key, long amount, boolean more) {
            if (!isKey(key) || amount < 1 || amount > MOST) {
                return ARGUMENT;
            }
            Item item = item(key);
            if (item == null) {
                return -6;
            }
            if (!item.state.equals("HELD")) {
                return -9;
            }
            if (amount > item.held) {
                return -11;
            }
            item.held -= amount;
            item.cleared += amount;
            accounts.get(item.account)[0] -= amount;
            if (!more || item.held == 0) {
                item.held = 0;
                item.state = "DONE";
                item.since = time;
            }
            return item.held;
        }

        long undo(int key, long left, boolean tomb) {
            if (!isKey(key) || left < 0) {
                return ARGUMENT;
            }
            Item item = item(key);
            if (item == null) {
                if (tomb && items.size() < 60) {
                    Item stone = new Item();
                    stone.key = key;
                    items.add(stone);
                }
                return -6;
            }
            if (item.state.equals("DONE") || item.cleared != 0) {
                return -9;
            }
            if (item.state.equals("HELD") && left > 0 && left < item.held) {
                item.held = left;
            } else if (item.state.equals("HELD")) {
                item.held = 0;
                item.state = "RELEASED";
            }
            return item.held;
        }

        long ticks(int n) {
            if (n < 1 || n > 1000) {
                return ARGUMENT;
            }
            if (time > 1000000 - n) {
                return ILLEGAL_STATE;
            }
            for (int i = 0; i < n; i++) {
                tick();
            }
            return time;
        }

        void tick() {
            time++;
            for (Item item : items) {
                if (item.state.equals("HELD") && item.until == time) {
                    item.held = 0;
                    item.state = item.cleared == 0 ? "RELEASED" : "DONE";
                    item.since = time;
                }
                if (item.dispute.equals("CHARGED") && item.deadline < time) {
                    item.dispute = "WON";
                } else if (item.dispute.equals("REPRESENTED") && item.deadline < time) {
                    item.dispute = "LOST";
                    accounts.get(item.account)[0] -= item.amount;
                }
            }
        }

        long charge(int key, long amount) {
            if (!isKey(key) || amount < 1) {
                return ARGUMENT;
            }
            Item item = item(key);
            if (item == null) {
                return -6;
            }
            if (!item.state.equals("DONE") || !item.dispute.equals("none")) {
                return -9;
            }
            if (time > item.since + patience) {
                return -10;
            }
            if (amount > item.cleared) {
                return -11;
            }
            item.dispute = "CHARGED";
            item.amount = amount;
            item.deadline = time + patience;
            accounts.get(item.account)[0] += amount;
            return 1;
        }

        long represent(int key) {
            if (!isKey(key)) {
                return ARGUMENT;
            }
            Item item = item(key);
            if (item == null) {
                return -6;
            }
            if (!item.dispute.equals("CHARGED")) {
                return -9;
            }
            item.dispute = "REPRESENTED";
            item.deadline = time + patience;
            return 1;
        }

        long decide(int key, boolean won) {
            if (!isKey(key)) {
                return ARGUMENT;
            }
            Item item = item(key);
            if (item == null) {
                return -6;
            }
            if (!item.dispute.equals("REPRESENTED")) {
                return -9;
            }
            item.dispute = won ? "WON" : "LOST";
            if (!won) {
                accounts.get(item.account)[0] -= item.amount;
            }
            return 1;
        }

        long forget() {
            int before = items.size();
            items.removeIf(item -> item.state.equals("RELEASED") || item.dispute.equals("WON")
                || item.dispute.equals("LOST")
                || item.state.equals("DONE") && item.dispute.equals("none") && time > item.since + patience);
            return before - items.size();
        }

        long funds(int account, int what) {
            if (account < 0 || account >= accounts.size() || what < 0 || what > 3) {
                return ARGUMENT;
            }
            long[] answers = {accounts.get(account)[0], heldOf(account), lockedOf(account), freeOf(account)};
            return answers[what];
        }

        long payment(int key, int what) {
            if (!isKey(key) || what < 0 || what > 8) {
                return ARGUMENT;
            }
            Item item = item(key);
            if (item == null) {
                return what == 0 ? 0 : -1;
            }
            long[] answers = {
                List.of("", "HELD", "RELEASED", "DONE").indexOf(item.state),
                item.held,
                item.cleared,
                item.state.equals("HELD") ? item.until : 0,
                item.state.equals("DONE") ? item.since : -1,
                item.account,
                List.of("none", "CHARGED", "REPRESENTED", "WON", "LOST").indexOf(item.dispute),
                item.amount,
                item.isOpen() ? item.deadline : -1,
            };
            return answers[what];
        }

        long key(int place) {
            if (place < 0) {
                return ARGUMENT;
            }
            return items.stream().mapToInt(i -> i.key).sorted().skip(place).findFirst().orElse(-1);
        }
    }

    /** One book and one model that are called alike. The seed is the run's number: every run can be had again. */
    private static final class Run {
        final int number;
        final Random random;
        final HoldBook book;
        final Model model;
        final int keys;
        final int longest;
        final StringBuilder told = new StringBuilder();

        Run(int number) {
            this.number = number;
            random = new Random(number);
            int hold = span();
            int patience = span();
            keys = random.nextBoolean() ? 8 : 90;
            longest = random.nextInt(4) == 0 ? 1000 : 4;
            book = new HoldBook(hold, patience);
            model = new Model(hold, patience);
            told.append("new HoldBook(").append(hold).append(", ").append(patience).append(")\n");
        }

        int span() {
            int[] edges = {-1, 0, 1, 5000, 5001, Integer.MIN_VALUE, Integer.MAX_VALUE};
            return random.nextInt(5) == 0 ? edges[random.nextInt(edges.length)] : 1 + random.nextInt(9);
        }

        int key() {
            int[] edges = {-1, 1000000, 1000001, Integer.MIN_VALUE, Integer.MAX_VALUE};
            return random.nextInt(60) == 0 ? edges[random.nextInt(edges.length)] : random.nextInt(keys);
        }

        long amount() {
            long[] edges = {-1, 0, MOST, MOST + 1, Long.MIN_VALUE, Long.MAX_VALUE};
            return random.nextInt(40) == 0 ? edges[random.nextInt(edges.length)] : 1 + random.nextInt(20);
        }

        int account() {
            return random.nextInt(40) == 0 ? random.nextInt(20) - 2 : random.nextInt(3);
        }

        void go() {
            for (int call = 0; call < CALLS && wrong == 0; call++) {
                step();
                if (call % 20 == 0) {
                    lookAtAll();
                }
            }
            lookAtAll();
        }

        void step() {
            int key = key();
            int account = account();
            long amount = amount();
            boolean flag = random.nextBoolean();
            int kind = random.nextInt(20);
            if (kind < 5) {
                same("ask(" + key + ", " + account + ", " + amount + ", " + flag + ")",
                    () -> book.ask(key, account, amount, flag), model.ask(key, account, amount, flag));
            } else if (kind < 9) {
                same("clear(" + key + ", " + amount + ", " + flag + ")",
                    () -> book.clear(key, amount, flag), model.clear(key, amount, flag));
            } else if (kind < 11) {
                same("undo(" + key + ", " + amount + ", " + flag + ")",
                    () -> book.undo(key, amount, flag), model.undo(key, amount, flag));
            } else if (kind < 14) {
                same("charge(" + key + ", " + amount + ")",
                    () -> book.charge(key, amount), model.charge(key, amount));
            } else if (kind < 15) {
                same("represent(" + key + ")", () -> book.represent(key), model.represent(key));
            } else if (kind < 16) {
                same("decide(" + key + ", " + flag + ")", () -> book.decide(key, flag), model.decide(key, flag));
            } else {
                rarerStep(key, account);
            }
        }

        void rarerStep(int key, int account) {
            int kind = random.nextInt(10);
            int what = random.nextInt(11) - 1;
            if (kind < 1) {
                same("forget()", book::forget, model.forget());
            } else if (kind < 4) {
                int n = random.nextInt(30) == 0 ? 1001 - random.nextInt(1003) : 1 + random.nextInt(longest);
                same("ticks(" + n + ")", () -> book.ticks(n), model.ticks(n));
            } else if (kind < 7) {
                long balance = random.nextInt(10) == 0 ? amount() : random.nextInt(200) - 20;
                long minimum = random.nextInt(10) == 0 ? amount() : -random.nextInt(50);
                same("account(" + balance + ", " + minimum + ")",
                    () -> book.account(balance, minimum), model.account(balance, minimum));
            } else if (kind < 8) {
                same("payment(" + key + ", " + what + ")", () -> book.payment(key, what), model.payment(key, what));
            } else if (kind < 9) {
                same("funds(" + account + ", " + what + ")", () -> book.funds(account, what),
                    model.funds(account, what));
            } else {
                int place = random.nextInt(64) - 2;
                same("key(" + place + ")", () -> book.key(place), model.key(place));
            }
        }

        void lookAtAll() {
            same("payments()", book::payments, model.items.size());
            // The model makes every sum anew, and nothing that the document allows lets FREE fall below 0.
            same("audit()", book::audit, 0);
            for (int account = 0; account < model.accounts.size(); account++) {
                for (int what = 0; what <= 3; what++) {
                    int number = account;
                    int which = what;
                    same("funds(" + number + ", " + which + ")", () -> book.funds(number, which),
                        model.funds(number, which));
                }
            }
            for (int place = 0; place <= model.items.size(); place++) {
                int at = place;
                same("key(" + at + ")", () -> book.key(at), model.key(at));
            }
            for (Model.Item item : model.items) {
                for (int what = 0; what <= 8; what++) {
                    int which = what;
                    same("payment(" + item.key + ", " + which + ")", () -> book.payment(item.key, which),
                        model.payment(item.key, which));
                }
            }
        }

        void same(String call, Call made, long want) {
            if (wrong != 0) {
                return;
            }
            long got = answerOf(made);
            told.append(call).append(" -> ").append(got).append('\n');
            // A balance below 0 is no refusal.
            if (got < 0 && got > -16 && !call.startsWith("funds")) {
                refused[(int) -got]++;
            }
            if (got != want) {
                wrong++;
                System.out.print(told);
                System.out.println("run " + number + ": " + call + " answered " + got + ", due is " + want);
            }
        }

        static long answerOf(Call made) {
            try {
                return made.answer();
            } catch (RuntimeException thrown) {
                if (thrown.getClass() == IllegalArgumentException.class) {
                    return ARGUMENT;
                }
                return thrown.getClass() == IllegalStateException.class ? ILLEGAL_STATE : ANOTHER_THROW;
            }
        }
    }
}
