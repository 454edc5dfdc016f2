import java.util.ArrayList;

/** Amounts held of accounts, cleared, charged back and disputed by deadlines; DOC.md tells its promises. */
public final class HoldBook {
    public static final int NONE = -1;
    public static final int FULL = -2;
    public static final int NOWHERE = -6;
    public static final int DOUBLE = -8;
    public static final int STATE = -9;
    public static final int LATE = -10;
    public static final int MUCH = -11;
    public static final int POOR = -12;

    private static final int MOST_ACCOUNTS = 16;
    private static final int MOST_PAYMENTS = 60;
    private static final int HIGHEST_KEY = 1000000;
    private static final int LONGEST_SPAN = 5000;
    private static final int MOST_TICKS = 1000;
    private static final int LAST_TIME = 1000000;
    private static final long MOST_AMOUNT = 1000000000000L;
    private static final int LAST_OF_FUNDS = 3;
    private static final int LAST_OF_PAYMENT = 8;

    private final int hold;
    private final int patience;
    private final ArrayList<Account> accounts = new ArrayList<>();
    /** Sorted by keys, so that a key's place is its index. */
    private final ArrayList<Payment> payments = new ArrayList<>();
    /** Stands in for the account of a payment that has none, so that no payment's account is null. */
    private final Account nobody = new Account(NONE, 0, 0);
    private int time = 0;

    public HoldBook(int hold, int patience) {
        this.hold = spanOf(hold);
        this.patience = spanOf(patience);
    }

    public int account(long balance, long minimum) throws IllegalArgumentException, IllegalStateException {
        if (balance < -MOST_AMOUNT || balance > MOST_AMOUNT) {
            throw new IllegalArgumentException("the balance is out of its bounds");
        }
        if (minimum < -MOST_AMOUNT || minimum > 0) {
            throw new IllegalArgumentException("the minimum is out of its bounds");
        }
        int number = accounts.size();
        if (number >= MOST_ACCOUNTS) {
            throw new IllegalStateException("there are 16 accounts");
        }
        accounts.add(new Account(number, balance, minimum));
        return number;
    }

    public long ask(int key, int account, long amount, boolean part) throws IllegalArgumentException {
        checkKey(key);
        checkAccount(account);
        checkAmount(amount);
        if (find(key) != null) {
            return DOUBLE;
        }
        if (payments.size() >= MOST_PAYMENTS) {
            return FULL;
        }
        Account payer = accounts.get(account);
        long free = payer.free();
        if (amount > free && !(part && free > 0)) {
            return POOR;
        }
        Payment asked = new Payment(key, payer);
        asked.holdUntil(Math.min(amount, free), time + hold);
        enter(asked);
        return asked.held;
    }

    public long clear(int key, long amount, boolean more) throws IllegalArgumentException {
        checkKey(key);
        checkAmount(amount);
        Payment found = find(key);
        if (found == null) {
            return NOWHERE;
        }
        if (found.state != Payment.HELD) {
            return STATE;
        }
        if (amount > found.held) {
            return MUCH;
        }
        found.take(amount);
        if (!more || found.held == 0) {
            found.endHold(time);
        }
        return found.held;
    }

    public long undo(int key, long left, boolean tomb) throws IllegalArgumentException {
        checkKey(key);
        if (left < 0) {
            throw new IllegalArgumentException("what is left is below 0");
        }
        Payment found = find(key);
        if (found == null) {
            if (tomb && payments.size() < MOST_PAYMENTS) {
                enter(new Payment(key, nobody));
            }
            return NOWHERE;
        }
        if (found.state == Payment.DONE || found.cleared > 0) {
            return STATE;
        }
        if (found.state == Payment.HELD) {
            if (left > 0 && left < found.held) {
                found.keepHeld(left);
            } else {
                found.endHold(time);
            }
        }
        return found.held;
    }

    public int ticks(int n) throws IllegalArgumentException, IllegalStateException {
        if (n < 1 || n > MOST_TICKS) {
            throw new IllegalArgumentException("the ticks are not 1 .. 1000");
        }
        if (time + n > LAST_TIME) {
            throw new IllegalStateException("the time would be above 1000000");
        }
        time += n;
        // No payment's deadline hangs on another payment: all n ticks may pass over each in turn, in any order.
        for (int place = 0; place < payments.size(); place++) {
            payments.get(place).passTo(time);
        }
        return time;
    }

    public int charge(int key, long amount) throws IllegalArgumentException {
        checkKey(key);
        if (amount < 1) {
            throw new IllegalArgumentException("the amount is below 1");
        }
        Payment found = find(key);
        if (found == null) {
            return NOWHERE;
        }
        if (found.state != Payment.DONE || found.dispute != Payment.UNDISPUTED) {
            return STATE;
        }
        if (isLongDone(found)) {
            return LATE;
        }
        if (amount > found.cleared) {
            return MUCH;
        }
        found.openDispute(amount, time + patience);
        return 1;
    }

    public int represent(int key) throws IllegalArgumentException {
        checkKey(key);
        Payment found = find(key);
        if (found == null) {
            return NOWHERE;
        }
        if (found.dispute != Payment.CHARGED) {
            return STATE;
        }
        found.answerDispute(time + patience);
        return 1;
    }

    public int decide(int key, boolean won) throws IllegalArgumentException {
        checkKey(key);
        Payment found = find(key);
        if (found == null) {
            return NOWHERE;
        }
        if (found.dispute != Payment.REPRESENTED) {
            return STATE;
        }
        found.endDispute(won);
        return 1;
    }

    public int forget() {
        int gone = 0;
        // From the last place down, so that a removal moves none that is still to be looked at.
        for (int place = payments.size() - 1; place >= 0; place--) {
            if (isOver(payments.get(place))) {
                payments.remove(place);
                gone++;
            }
        }
        return gone;
    }

    public long funds(int account, int what) throws IllegalArgumentException {
        checkAccount(account);
        checkWhat(what, LAST_OF_FUNDS);
        return accounts.get(account).tell(what);
    }

    public long payment(int key, int what) throws IllegalArgumentException {
        checkKey(key);
        checkWhat(what, LAST_OF_PAYMENT);
        Payment found = find(key);
        if (found == null) {
            return what == 0 ? 0 : NONE;
        }
        return found.tell(what);
    }

    public int key(int place) throws IllegalArgumentException {
        if (place < 0) {
            throw new IllegalArgumentException("the place is below 0");
        }
        return place < payments.size() ? payments.get(place).key : NONE;
    }

    public int payments() {
        return payments.size();
    }

    public int audit() {
        int wrong = 0;
        for (int number = 0; number < accounts.size(); number++) {
            Account looked = accounts.get(number);
            if (!agrees(looked) || looked.isOverdrawn()) {
                wrong++;
            }
        }
        return wrong;
    }

    private static int spanOf(int ticks) {
        return Math.max(1, Math.min(LONGEST_SPAN, ticks));
    }

    private static void checkKey(int key) {
        if (key < 0 || key > HIGHEST_KEY) {
            throw new IllegalArgumentException("no key");
        }
    }

    private static void checkAmount(long amount) {
        if (amount < 1 || amount > MOST_AMOUNT) {
            throw new IllegalArgumentException("the amount is out of its bounds");
        }
    }

    private static void checkWhat(int what, int last) {
        if (what < 0 || what > last) {
            throw new IllegalArgumentException("there is no such thing to tell");
        }
    }

    private void checkAccount(int account) {
        if (account < 0 || account >= accounts.size()) {
            throw new IllegalArgumentException("there is no such account");
        }
    }

    /** The place of the first payment whose key is not below this one. */
    private int placeOf(int key) {
        int place = 0;
        while (place < payments.size() && payments.get(place).key < key) {
            place++;
        }
        return place;
    }

    /** The payment with this key, or null. */
    private Payment find(int key) {
        int place = placeOf(key);
        if (place >= payments.size()) {
            return null;
        }
        Payment there = payments.get(place);
        return there.key == key ? there : null;
    }

    private void enter(Payment coming) {
        payments.add(placeOf(coming.key), coming);
    }

    private boolean isLongDone(Payment looked) {
        return looked.state == Payment.DONE && time - looked.since > patience;
    }

    private boolean isOver(Payment looked) {
        if (looked.dispute == Payment.UNDISPUTED) {
            return looked.state == Payment.RELEASED || isLongDone(looked);
        }
        return looked.dispute == Payment.WON || looked.dispute == Payment.LOST;
    }

    private boolean agrees(Account looked) {
        long held = 0;
        long locked = 0;
        for (int place = 0; place < payments.size(); place++) {
            Payment each = payments.get(place);
            if (each.account.number == looked.number) {
                held += each.held;
                locked += each.locked();
            }
        }
        return held == looked.held && locked == looked.locked;
    }

    private static final class Account {
        final int number;
        final long minimum;
        final long freeAtFirst;
        long balance;
        long held = 0;
        long locked = 0;

        Account(int number, long balance, long minimum) {
            this.number = number;
            this.balance = balance;
            this.minimum = minimum;
            this.freeAtFirst = balance - minimum;
        }

        long free() {
            return balance - minimum - held - locked;
        }

        /** An account may have been told with a FREE below 0: only what fell further counts. */
        boolean isOverdrawn() {
            long free = free();
            return free < 0 && free < freeAtFirst;
        }

        long tell(int what) {
            switch (what) {
                case 0:
                    return balance;
                case 1:
                    return held;
                case 2:
                    return locked;
                default:
                    return free();
            }
        }
    }

    /** Keeps the sums of its account in step with its own amounts. Comes RELEASED, with nothing held. */
    private static final class Payment {
        static final int HELD = 1;
        static final int RELEASED = 2;
        static final int DONE = 3;

        static final int UNDISPUTED = 0;
        static final int CHARGED = 1;
        static final int REPRESENTED = 2;
        static final int WON = 3;
        static final int LOST = 4;

        final int key;
        final Account account;
        int state = RELEASED;
        long held = 0;
        long cleared = 0;
        /** 0 if it is not HELD. */
        int until = 0;
        /** NONE if it is not DONE. */
        int since = NONE;
        int dispute = UNDISPUTED;
        long disputed = 0;
        /** NONE if it is neither CHARGED nor REPRESENTED. */
        int disputeUntil = NONE;

        Payment(int key, Account account) {
            this.key = key;
            this.account = account;
        }

        void holdUntil(long amount, int end) {
            state = HELD;
            until = end;
            keepHeld(amount);
        }

        void keepHeld(long amount) {
            account.held += amount - held;
            held = amount;
        }

        void take(long amount) {
            keepHeld(held - amount);
            cleared += amount;
            account.balance -= amount;
        }

        void endHold(int now) {
            keepHeld(0);
            until = 0;
            if (cleared > 0) {
                state = DONE;
                since = now;
            } else {
                state = RELEASED;
            }
        }

        void openDispute(long amount, int end) {
            dispute = CHARGED;
            disputed = amount;
            disputeUntil = end;
            account.balance += amount;
            account.locked += amount;
        }

        void answerDispute(int end) {
            dispute = REPRESENTED;
            disputeUntil = end;
        }

        void endDispute(boolean won) {
            account.locked -= disputed;
            if (!won) {
                account.balance -= disputed;
            }
            dispute = won ? WON : LOST;
            disputeUntil = NONE;
        }

        boolean isDisputeOpen() {
            return dispute == CHARGED || dispute == REPRESENTED;
        }

        long locked() {
            return isDisputeOpen() ? disputed : 0;
        }

        /** A hold ends at its time, which several ticks at once may have gone beyond; a dispute only after its time. */
        void passTo(int now) {
            if (state == HELD && until <= now) {
                endHold(until);
            }
            if (isDisputeOpen() && disputeUntil < now) {
                endDispute(dispute == CHARGED);
            }
        }

        long tell(int what) {
            switch (what) {
                case 0:
                    return state;
                case 1:
                    return held;
                case 2:
                    return cleared;
                case 3:
                    return until;
                case 4:
                    return since;
                case 5:
                    return account.number;
                case 6:
                    return dispute;
                case 7:
                    return disputed;
                default:
                    return disputeUntil;
            }
        }
    }
}
