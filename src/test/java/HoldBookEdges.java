import java.util.ArrayList;
import java.util.List;

/**
 * Each sentence of the document that names a boundary case, with a test of its own: the last number within a bound
 * and the first beyond it, nothing there yet, no place left, and calls that are refused and leave all as it was.
 * But for the last time, no object is used for more than the 512 calls that are promised.
 */
public final class HoldBookEdges {
    private static final long MOST = 1000000000000L;
    private static final int HIGHEST_KEY = 1000000;
    /** Written out here, so that a wrong constant of the class can't hide in both. */
    private static final int NONE = -1;
    private static final int FULL = -2;
    private static final int NOWHERE = -6;
    private static final int DOUBLE = -8;
    private static final int STATE = -9;
    private static final int LATE = -10;
    private static final int MUCH = -11;
    private static final int POOR = -12;
    private static final String ARGUMENT = "throws.IllegalArgumentException";
    private static final String ILLEGAL_STATE = "throws.IllegalStateException";

    private static final int HELD = 1;
    private static final int RELEASED = 2;
    private static final int DONE = 3;
    private static final int CHARGED = 1;
    private static final int REPRESENTED = 2;
    private static final int WON = 3;
    private static final int LOST = 4;

    /** The keys of busy(), by what has become of the payment. */
    private static final int HELD_KEY = 10;
    private static final int PART_KEY = 20;
    private static final int RELEASED_KEY = 30;
    private static final int TOMB_KEY = 40;
    private static final int DONE_KEY = 50;
    private static final int LATE_KEY = 55;
    private static final int CHARGED_KEY = 60;
    private static final int REPRESENTED_KEY = 70;
    private static final int WON_KEY = 80;
    private static final int LOST_KEY = 90;
    private static final int NO_PAYMENT = 65;
    private static final int[] BUSY_KEYS = {HELD_KEY, PART_KEY, RELEASED_KEY, TOMB_KEY, DONE_KEY, LATE_KEY,
        CHARGED_KEY, REPRESENTED_KEY, WON_KEY, LOST_KEY};

    private static String sentence = "";
    private static int wrong = 0;

    private interface Making {
        HoldBook book();
    }

    private interface Call {
        long on(HoldBook book);
    }

    private interface KeyCall {
        long on(HoldBook book, int key);
    }

    private interface Look {
        List<String> at(HoldBook book);
    }

    public static void main(String[] args) {
        terms();
        termsOfAsk();
        termsOfClear();
        termsOfUndo();
        termsOfTicks();
        termsOfDisputes();
        termsOfExceptions();
        promisesOfNumbers();
        promisesOfDisputes();
        promisesOfTelling();
        System.out.println(wrong == 0 ? "all edges hold" : wrong + " answers are not as due");
        if (wrong != 0) {
            System.exit(1);
        }
    }

    // ---- Terms: the bounds

    private static void terms() {
        timeIsZeroAtFirst();
        accountsAreZeroToFifteen();
        freeIsWhatIsLeft();
        keysHaveBounds();
        bothLastKeysLiveThroughAll();
        sixtyPaymentsAtATime();
        constantsAreAsTold();
    }

    private static void constantsAreAsTold() {
        sentence = "Terms: the constants";
        due("NONE", HoldBook.NONE, NONE);
        due("FULL", HoldBook.FULL, FULL);
        due("NOWHERE", HoldBook.NOWHERE, NOWHERE);
        due("DOUBLE", HoldBook.DOUBLE, DOUBLE);
        due("STATE", HoldBook.STATE, STATE);
        due("LATE", HoldBook.LATE, LATE);
        due("MUCH", HoldBook.MUCH, MUCH);
        due("POOR", HoldBook.POOR, POOR);
    }

    private static void timeIsZeroAtFirst() {
        sentence = "Terms: TIME is a number of ticks, 0 at first";
        HoldBook book = new HoldBook(4, 3);
        book.account(10, 0);
        book.ask(1, 0, 1, false);
        due("until when it is held, asked at first with HOLD 4", book.payment(1, 3), 4);
        book.clear(1, 1, false);
        due("since when it is DONE, cleared at first", book.payment(1, 4), 0);
        book.charge(1, 1);
        due("until when it is charged at first with PATIENCE 3", book.payment(1, 8), 3);
        due("the time after the first tick", book.ticks(1), 1);
    }

    private static void accountsAreZeroToFifteen() {
        sentence = "Terms: ACCOUNTS are 0 .. 15; illegal argument: there is no such account";
        for (int there : new int[] {0, 1, 2, 15, 16}) {
            Making making = () -> withAccounts(there);
            for (int account : new int[] {Integer.MIN_VALUE, -1, there, there + 1, 16, 1000, Integer.MAX_VALUE}) {
                String told = account + " when there are " + there;
                refused("ask of account " + told, making, b -> b.ask(7, account, 1, true), ARGUMENT);
                refused("funds of account " + told, making, b -> b.funds(account, 0), ARGUMENT);
            }
            for (int account = 0; account < there; account++) {
                HoldBook book = making.book();
                due("the balance of account " + account + " of " + there, book.funds(account, 0), 100 + account);
                due("ask of account " + account + " of " + there, book.ask(7, account, 1, false), 1);
                due("its account", book.payment(7, 5), account);
            }
        }
    }

    private static void freeIsWhatIsLeft() {
        sentence = "Terms: its FREE is the balance less the minimum, what is held of it and what is LOCKED";
        long[][] told = {{MOST, -MOST, 2 * MOST}, {MOST, 0, MOST}, {0, -MOST, MOST}, {0, 0, 0}, {-MOST, -MOST, 0},
            {-MOST, 0, -MOST}, {1, -1, 2}, {-1, 0, -1}, {-1, -1, 0}};
        for (long[] each : told) {
            HoldBook book = new HoldBook(4, 3);
            book.account(each[0], each[1]);
            due("FREE of balance " + each[0] + " and minimum " + each[1], book.funds(0, 3), each[2]);
            due("held at first", book.funds(0, 1), 0);
            due("LOCKED at first", book.funds(0, 2), 0);
        }
        HoldBook book = new HoldBook(4, 3);
        book.account(MOST, -MOST);
        due("the first half of FREE", book.ask(1, 0, MOST, false), MOST);
        due("the other half of FREE", book.ask(2, 0, MOST, false), MOST);
        dueOfFunds("all of it held", book, 0, MOST, 2 * MOST, 0, 0);
        book.clear(1, MOST, false);
        book.clear(2, MOST, false);
        dueOfFunds("all of it cleared", book, 0, -MOST, 0, 0, 0);
        book.charge(1, MOST);
        book.charge(2, MOST);
        dueOfFunds("all of it locked", book, 0, MOST, 0, 2 * MOST, 0);
        due("no ask of what is locked", book.ask(3, 0, 1, true), POOR);
    }

    private static void keysHaveBounds() {
        sentence = "Terms: KEYS (0 .. 1000000)";
        String[] names = {"ask", "clear", "undo", "undo with a tomb", "charge", "represent", "decide", "payment"};
        KeyCall[] calls = {(b, key) -> b.ask(key, 0, 1, true), (b, key) -> b.clear(key, 1, true),
            (b, key) -> b.undo(key, 0, false), (b, key) -> b.undo(key, 0, true), (b, key) -> b.charge(key, 1),
            (b, key) -> b.represent(key), (b, key) -> b.decide(key, true), (b, key) -> b.payment(key, 0)};
        long[] dueOfNew = {1, NOWHERE, NOWHERE, NOWHERE, NOWHERE, NOWHERE, NOWHERE, 0};
        for (int which = 0; which < calls.length; which++) {
            KeyCall call = calls[which];
            for (int key : new int[] {Integer.MIN_VALUE, -HIGHEST_KEY, -1, HIGHEST_KEY + 1, Integer.MAX_VALUE}) {
                refused(names[which] + " of key " + key, HoldBookEdges::busy, b -> call.on(b, key), ARGUMENT);
            }
            for (int key : new int[] {0, 1, HIGHEST_KEY - 1, HIGHEST_KEY}) {
                due(names[which] + " of key " + key, call.on(busy(), key), dueOfNew[which]);
            }
        }
    }

    private static void bothLastKeysLiveThroughAll() {
        sentence = "Terms: KEYS (0 .. 1000000), the first and the last of them";
        for (int key : new int[] {0, HIGHEST_KEY}) {
            HoldBook book = new HoldBook(4, 3);
            book.account(100, 0);
            book.undo(HIGHEST_KEY / 2, 0, true);
            due("ask", book.ask(key, 0, 10, false), 10);
            due("ask again", book.ask(key, 0, 10, false), DOUBLE);
            due("its place", book.key(key == 0 ? 0 : 1), key);
            due("undo", book.undo(key, 9, false), 9);
            due("clear", book.clear(key, 9, false), 0);
            due("charge", book.charge(key, 9), 1);
            due("represent", book.represent(key), 1);
            due("decide", book.decide(key, false), 1);
            dueOfPayment("then", book, key, DONE, 0, 9, 0, 0, 0, LOST, 9, NONE);
        }
    }

    private static void sixtyPaymentsAtATime() {
        sentence = "Terms: PAYMENTS, at most 60 at a time";
        due("the 60th", withPayments(59).ask(59, 0, 1, false), 1);
        refused("the 61st", () -> withPayments(60), b -> b.ask(60, 0, 1, false), FULL);
        refused("the 61st, with the lowest key", () -> withPayments(60), b -> b.ask(0, 0, 1, false), DOUBLE);
        HoldBook book = withPayments(60);
        due("how many", book.payments(), 60);
        due("the key of the last", book.key(59), 59);
        due("none behind it", book.key(60), NONE);
        due("held of the account", book.funds(0, 1), 60);

        KeyCall[] ends = {(b, key) -> b.undo(key, 0, false), (b, key) -> b.clear(key, 1, false)};
        for (KeyCall end : ends) {
            Making ended = () -> withPayments(60, end);
            refused("when one of 60 is RELEASED or DONE", ended, b -> b.ask(60, 0, 1, false), FULL);
        }
        HoldBook again = withPayments(60, ends[0]);
        due("one of 60 goes", again.forget(), 1);
        due("one comes in its place", again.ask(60, 0, 1, false), 1);
        due("and no more", again.ask(61, 0, 1, false), FULL);
    }

    // ---- Terms: ask()

    private static void termsOfAsk() {
        askIsDouble();
        askIsFull();
        askNotAboveFree();
        askForAPart();
        askIsPoor();
        askIsHeldUntil();
    }

    private static void askIsDouble() {
        sentence = "Terms, ask(): DOUBLE: there is a payment with this key";
        for (int key : BUSY_KEYS) {
            refused("ask of key " + key, HoldBookEdges::busy, b -> b.ask(key, 0, 1, false), DOUBLE);
            refused("ask of key " + key + " when it would be POOR", HoldBookEdges::busy,
                    b -> b.ask(key, 1, 1, true), DOUBLE);
            for (int beside : new int[] {key - 1, key + 1}) {
                due("ask of key " + beside + " beside it", busy().ask(beside, 0, 1, false), 1);
            }
        }
        for (int key : new int[] {0, 30, 59}) {
            refused("ask of key " + key + " when there are 60", () -> withPayments(60),
                    b -> b.ask(key, 0, 1, false), DOUBLE);
        }
        HoldBook book = busy();
        book.forget();
        due("ask of a key whose payment went", book.ask(WON_KEY, 0, 1, false), 1);
    }

    private static void askIsFull() {
        sentence = "Terms, ask(): FULL: there are 60";
        refused("when there is enough", () -> withPayments(60), b -> b.ask(60, 0, 40, false), FULL);
        refused("when there is not enough", () -> withPayments(60), b -> b.ask(60, 0, 41, false), FULL);
        refused("when a part will do", () -> withPayments(60), b -> b.ask(60, 0, MOST, true), FULL);
        due("when there are 59 and not enough", withPayments(59).ask(60, 0, 42, false), POOR);
        refused("of 60 tombs", HoldBookEdges::sixtyTombs, b -> b.ask(60, 0, 1, false), FULL);
    }

    private static void askNotAboveFree() {
        sentence = "Terms, ask(): the amount is held if it is not above FREE";
        for (boolean part : new boolean[] {false, true}) {
            for (long amount : new long[] {1, 2, 119, 120}) {
                HoldBook book = new HoldBook(4, 3);
                book.account(100, -20);
                due("ask " + amount + " of 120", book.ask(1, 0, amount, part), amount);
                dueOfFunds("then", book, 0, 100, amount, 0, 120 - amount);
                dueOfPayment("then", book, 1, HELD, amount, 0, 4, NONE, 0, 0, 0, NONE);
            }
        }
        Making poor = () -> new HoldBookMaker(4, 3).account(100, -20).book;
        refused("ask 121 of 120", poor, b -> b.ask(1, 0, 121, false), POOR);
        refused("ask 10^12 of 120", poor, b -> b.ask(1, 0, MOST, false), POOR);
        HoldBook book = poor.book();
        book.ask(1, 0, 119, false);
        due("2 of the 1 that is left", book.ask(2, 0, 2, false), POOR);
        due("1 of the 1 that is left", book.ask(2, 0, 1, false), 1);
        due("1 of nothing that is left", book.ask(3, 0, 1, false), POOR);
        book.undo(1, 118, false);
        due("2 of the 1 that came back", book.ask(3, 0, 2, false), POOR);
        due("1 of the 1 that came back", book.ask(3, 0, 1, false), 1);
    }

    private static void askForAPart() {
        sentence = "Terms, ask(): else, if a part will do and FREE is above 0, FREE is held";
        for (long free : new long[] {1, 2, 120, MOST - 1}) {
            for (long amount : new long[] {free + 1, MOST}) {
                HoldBook book = new HoldBook(4, 3);
                book.account(free, 0);
                due("ask " + amount + " of " + free + " in part", book.ask(1, 0, amount, true), free);
                dueOfFunds("then", book, 0, free, free, 0, 0);
                dueOfPayment("then", book, 1, HELD, free, 0, 4, NONE, 0, 0, 0, NONE);
                refused("no part of " + free, () -> new HoldBookMaker(4, 3).account(free, 0).book,
                        b -> b.ask(1, 0, amount, false), POOR);
            }
        }
    }

    private static void askIsPoor() {
        sentence = "Terms, ask(): else POOR";
        long[][] told = {{0, 0}, {-1, 0}, {-1, -1}, {-MOST, 0}, {-MOST, -MOST}};
        for (long[] each : told) {
            Making making = () -> new HoldBookMaker(4, 3).account(each[0], each[1]).book;
            for (boolean part : new boolean[] {false, true}) {
                refused("ask 1 of balance " + each[0] + " and minimum " + each[1], making,
                        b -> b.ask(1, 0, 1, part), POOR);
                refused("ask 10^12 of it", making, b -> b.ask(1, 0, MOST, part), POOR);
            }
        }
        Making nothingLeft = () -> {
            HoldBook book = new HoldBookMaker(4, 3).account(10, 0).account(10, 0).book;
            book.ask(1, 0, 10, false);
            return book;
        };
        refused("when all is held", nothingLeft, b -> b.ask(2, 0, 1, true), POOR);
        due("of another account", nothingLeft.book().ask(2, 1, 1, false), 1);
    }

    private static void askIsHeldUntil() {
        sentence = "Terms, ask(): it is HELD until TIME and HOLD then";
        for (int hold : new int[] {1, 2, 7, 5000}) {
            for (int time : new int[] {1, 6, 1000}) {
                HoldBook book = new HoldBook(hold, 3);
                book.account(10, 0);
                book.ticks(time);
                book.ask(1, 0, 20, true);
                due("asked at " + time + " with HOLD " + hold, book.payment(1, 3), time + hold);
                book.undo(1, 5, false);
                due("taken back in part", book.payment(1, 3), time + hold);
                book.clear(1, 1, true);
                due("cleared in part", book.payment(1, 3), time + hold);
            }
        }
    }

    // ---- Terms: clear()

    private static void termsOfClear() {
        sentence = "Terms, clear(): NOWHERE: there is no such payment";
        refused("when there are none", HoldBookEdges::empty, b -> b.clear(1, 1, false), NOWHERE);
        refused("when there are others", HoldBookEdges::busy, b -> b.clear(NO_PAYMENT, 1, false), NOWHERE);
        refused("with the greatest amount", HoldBookEdges::busy, b -> b.clear(NO_PAYMENT, MOST, true), NOWHERE);

        sentence = "Terms, clear(): STATE: it is not HELD";
        for (int key : new int[] {RELEASED_KEY, TOMB_KEY, DONE_KEY, LATE_KEY, CHARGED_KEY, REPRESENTED_KEY, WON_KEY,
            LOST_KEY}) {
            refused("clear of key " + key, HoldBookEdges::busy, b -> b.clear(key, 1, false), STATE);
            refused("and of more than is held", HoldBookEdges::busy, b -> b.clear(key, MOST, true), STATE);
        }
        due("clear of one that is HELD", busy().clear(HELD_KEY, 1, true), 99);
        due("clear of one that is HELD, cleared in part", busy().clear(PART_KEY, 1, true), 59);

        sentence = "Terms, clear(): MUCH: the amount is above what is held";
        for (boolean more : new boolean[] {false, true}) {
            refused("101 of 100", HoldBookEdges::busy, b -> b.clear(HELD_KEY, 101, more), MUCH);
            refused("10^12 of 100", HoldBookEdges::busy, b -> b.clear(HELD_KEY, MOST, more), MUCH);
            refused("61 of 60 that are held still", HoldBookEdges::busy, b -> b.clear(PART_KEY, 61, more), MUCH);
            due("100 of 100", busy().clear(HELD_KEY, 100, more), 0);
            due("60 of 60 that are held still", busy().clear(PART_KEY, 60, more), 0);
        }
        HoldBook less = busy();
        less.undo(HELD_KEY, 30, false);
        due("31 of 30 that were left", less.clear(HELD_KEY, 31, true), MUCH);
        due("30 of 30 that were left", less.clear(HELD_KEY, 30, true), 0);
        clearTakesSoMuch();
        clearEndsIt();
    }

    private static void clearTakesSoMuch() {
        sentence = "Terms, clear(): so much is held no more, and the balance becomes less by it";
        for (long amount : new long[] {1, 2, 9}) {
            HoldBook book = new HoldBookMaker(4, 3).account(10, -5).book;
            book.ask(1, 0, 10, false);
            due("clear " + amount + " of 10", book.clear(1, amount, true), 10 - amount);
            dueOfPayment("then", book, 1, HELD, 10 - amount, amount, 4, NONE, 0, 0, 0, NONE);
            dueOfFunds("then", book, 0, 10 - amount, 10 - amount, 0, 5);
        }
        HoldBook most = new HoldBookMaker(4, 3).account(0, -MOST).book;
        most.ask(1, 0, MOST, false);
        due("clear all but 1 of 10^12", most.clear(1, MOST - 1, true), 1);
        due("clear the last", most.clear(1, 1, true), 0);
        dueOfFunds("down to the minimum", most, 0, -MOST, 0, 0, 0);
        due("all that was cleared", most.payment(1, 2), MOST);
    }

    private static void clearEndsIt() {
        sentence = "Terms, clear(): if no more is to come, nothing of it is held any more, and it is DONE";
        for (long amount : new long[] {1, 9, 10}) {
            HoldBook book = new HoldBookMaker(4, 3).account(10, -5).book;
            book.ask(1, 0, 10, false);
            book.ticks(3);
            due("clear " + amount + " of 10", book.clear(1, amount, false), 0);
            dueOfPayment("then", book, 1, DONE, 0, amount, 0, 3, 0, 0, 0, NONE);
            dueOfFunds("then", book, 0, 10 - amount, 0, 0, 15 - amount);
            book.ticks(1);
            due("DONE since as before, at the time that it had been held until", book.payment(1, 4), 3);
        }

        sentence = "Terms, clear(): or nothing is held any more: it is DONE";
        HoldBook book = new HoldBookMaker(4, 3).account(10, -5).book;
        book.ask(1, 0, 10, false);
        due("9 of 10, and more may come", book.clear(1, 9, true), 1);
        due("it is HELD", book.payment(1, 0), HELD);
        book.ticks(2);
        due("the last 1, and more may come", book.clear(1, 1, true), 0);
        dueOfPayment("then", book, 1, DONE, 0, 10, 0, 2, 0, 0, 0, NONE);
        due("nothing more may come", book.clear(1, 1, true), STATE);
    }

    // ---- Terms: undo()

    private static void termsOfUndo() {
        undoNowhere();
        undoWithATomb();
        undoWithATombWhenThereAreSixty();
        undoNeedsTheState();
        undoButForSoMuch();
        undoOfReleased();
    }

    private static void undoNowhere() {
        sentence = "Terms, undo(): NOWHERE";
        for (long left : new long[] {0, 1, Long.MAX_VALUE}) {
            refused("when there are none", HoldBookEdges::empty, b -> b.undo(1, left, false), NOWHERE);
            refused("when there are others", HoldBookEdges::busy, b -> b.undo(NO_PAYMENT, left, false), NOWHERE);
        }
    }

    private static void undoWithATomb() {
        sentence = "Terms, undo(): with tomb, one with this key comes that is RELEASED, of no account";
        for (long left : new long[] {0, 1, Long.MAX_VALUE}) {
            HoldBook book = new HoldBook(4, 3);
            due("when there is not even an account", book.undo(1, left, true), NOWHERE);
            due("how many", book.payments(), 1);
            due("its key", book.key(0), 1);
            dueOfPayment("the tomb", book, 1, RELEASED, 0, 0, 0, NONE, NONE, 0, 0, NONE);
            due("audit", book.audit(), 0);
        }
        HoldBook book = busy();
        due("between others", book.undo(NO_PAYMENT, 0, true), NOWHERE);
        due("its place", book.key(7), NO_PAYMENT);
        dueOfFunds("no account is touched", book, 0, 914, 160, 12, 842);
        book.ticks(1000);
        dueOfPayment("it stays as it is", book, NO_PAYMENT, RELEASED, 0, 0, 0, NONE, NONE, 0, 0, NONE);
        due("what was asked too late", book.ask(NO_PAYMENT, 0, 1, true), DOUBLE);
        for (int key : new int[] {HELD_KEY, PART_KEY, RELEASED_KEY, TOMB_KEY, DONE_KEY}) {
            HoldBook with = busy();
            HoldBook without = busy();
            due("a tomb where there is one: " + key, with.undo(key, 0, true), without.undo(key, 0, false));
            same("a tomb where there is one: " + key, lookAtPayments(with, 0, 20), lookAtPayments(without, 0, 20));
        }
    }

    private static void undoWithATombWhenThereAreSixty() {
        sentence = "Terms, undo(): with tomb, if there are less than 60 payments";
        HoldBook book = withPayments(59);
        due("when there are 59", book.undo(59, 0, true), NOWHERE);
        due("the 60th came", book.payments(), 60);
        due("it is RELEASED", book.payment(59, 0), RELEASED);
        refused("when there are 60", () -> withPayments(60), b -> b.undo(60, 0, true), NOWHERE);
        refused("when there are 60 tombs", HoldBookEdges::sixtyTombs, b -> b.undo(60, 5, true), NOWHERE);
        HoldBook tombs = sixtyTombs();
        due("all of them go", tombs.forget(), 60);
        due("there is room again", tombs.undo(60, 0, true), NOWHERE);
        due("how many", tombs.payments(), 1);
    }

    private static void undoNeedsTheState() {
        sentence = "Terms, undo(): STATE: it is DONE, or something of it is cleared";
        for (int key : new int[] {PART_KEY, DONE_KEY, LATE_KEY, CHARGED_KEY, REPRESENTED_KEY, WON_KEY, LOST_KEY}) {
            for (long left : new long[] {0, 1, 59, 60, Long.MAX_VALUE}) {
                refused("undo of key " + key + " but for " + left, HoldBookEdges::busy,
                        b -> b.undo(key, left, false), STATE);
            }
            refused("undo of key " + key + " with a tomb", HoldBookEdges::busy, b -> b.undo(key, 0, true), STATE);
        }
        Making oneCleared = () -> {
            HoldBook book = new HoldBookMaker(4, 3).account(10, 0).book;
            book.ask(1, 0, 10, false);
            book.clear(1, 1, true);
            return book;
        };
        refused("when only 1 is cleared", oneCleared, b -> b.undo(1, 0, false), STATE);
        Making endedByTime = () -> {
            HoldBook book = oneCleared.book();
            book.ticks(4);
            return book;
        };
        refused("when its time made it DONE", endedByTime, b -> b.undo(1, 0, false), STATE);
    }

    private static void undoButForSoMuch() {
        sentence = "Terms, undo(): if it is HELD and left is above 0 and below what is held, so much is held";
        for (long left : new long[] {1, 2, 98, 99}) {
            HoldBook book = busy();
            due("but for " + left + " of 100", book.undo(HELD_KEY, left, false), left);
            dueOfPayment("then", book, HELD_KEY, HELD, left, 0, 54, NONE, 0, 0, 0, NONE);
            dueOfFunds("then", book, 0, 914, 60 + left, 12, 942 - left);
        }

        sentence = "Terms, undo(): else, if it is HELD, nothing is held and it is RELEASED";
        for (long left : new long[] {0, 100, 101, MOST, MOST + 1, Long.MAX_VALUE}) {
            HoldBook book = busy();
            due("but for " + left + " of 100", book.undo(HELD_KEY, left, false), 0);
            dueOfPayment("then", book, HELD_KEY, RELEASED, 0, 0, 0, NONE, 0, 0, 0, NONE);
            dueOfFunds("then", book, 0, 914, 60, 12, 942);
        }
        HoldBook one = new HoldBookMaker(4, 3).account(1, 0).book;
        one.ask(1, 0, 1, false);
        due("but for 1 of 1", one.undo(1, 1, false), 0);
        due("it is RELEASED", one.payment(1, 0), RELEASED);
        HoldBook twice = new HoldBookMaker(4, 3).account(9, 0).book;
        twice.ask(1, 0, 9, false);
        due("but for 5 of 9", twice.undo(1, 5, false), 5);
        due("but for 6 of the 5 that were left", twice.undo(1, 6, false), 0);
        due("it is RELEASED too", twice.payment(1, 0), RELEASED);
    }

    private static void undoOfReleased() {
        sentence = "Terms, undo(): one that is RELEASED stays so: how much is held still";
        for (int key : new int[] {RELEASED_KEY, TOMB_KEY}) {
            for (long left : new long[] {0, 1, Long.MAX_VALUE}) {
                refused("undo of key " + key + " but for " + left, HoldBookEdges::busy,
                        b -> b.undo(key, left, false), 0);
                refused("undo of key " + key + " with a tomb", HoldBookEdges::busy,
                        b -> b.undo(key, left, true), 0);
            }
        }
    }

    // ---- Terms: a tick

    private static void termsOfTicks() {
        timeGrows();
        heldUntilThisTime();
        chargedUntilATimeBefore();
        representedUntilATimeBefore();
        manyTicksAreAsManyCalls();
    }

    private static void timeGrows() {
        sentence = "Terms, a tick: TIME grows by 1";
        HoldBook book = new HoldBook(4, 3);
        due("1 tick", book.ticks(1), 1);
        due("2 ticks", book.ticks(2), 3);
        due("999 ticks", book.ticks(999), 1002);
        due("1000 ticks", book.ticks(1000), 2002);
        due("1 tick more", book.ticks(1), 2003);
    }

    private static void heldUntilThisTime() {
        for (int hold : new int[] {1, 2, 7, 1000, 5000}) {
            for (int start : new int[] {0, 3}) {
                for (int beyond : new int[] {0, 1, 500}) {
                    holdEnds(hold, start, beyond);
                }
            }
        }
    }

    /** Payment 1 has nothing cleared, payment 2 has 4; the hold ends, and so many ticks beyond its end pass too. */
    private static void holdEnds(int hold, int start, int beyond) {
        sentence = "Terms, a tick: a payment HELD until this time is held no more";
        HoldBook book = new HoldBookMaker(hold, 5000).account(100, 0).book;
        pass(book, start);
        book.ask(1, 0, 10, false);
        book.ask(2, 0, 10, false);
        book.clear(2, 4, true);
        pass(book, hold - 1);
        int end = start + hold;
        dueOfPayment("a tick before " + end, book, 1, HELD, 10, 0, end, NONE, 0, 0, 0, NONE);
        dueOfPayment("a tick before " + end, book, 2, HELD, 6, 4, end, NONE, 0, 0, 0, NONE);
        dueOfFunds("a tick before " + end, book, 0, 96, 16, 0, 80);
        pass(book, 1 + beyond);
        String when = beyond + " ticks after " + end;
        dueOfFunds(when, book, 0, 96, 0, 0, 96);
        sentence = "Terms, a tick: it is RELEASED if nothing of it is cleared";
        dueOfPayment(when, book, 1, RELEASED, 0, 0, 0, NONE, 0, 0, 0, NONE);
        sentence = "Terms, a tick: else DONE";
        dueOfPayment(when, book, 2, DONE, 0, 4, 0, end, 0, 0, 0, NONE);
    }

    private static void chargedUntilATimeBefore() {
        sentence = "Terms, a tick: a dispute that was CHARGED until a time before this one is WON";
        for (int patience : new int[] {1, 2, 7, 5000}) {
            for (int beyond : new int[] {1, 2, 500}) {
                HoldBook book = doneOf100(patience);
                book.ticks(1);
                book.charge(1, 6);
                pass(book, patience);
                dueOfPayment("at the time", book, 1, DONE, 0, 10, 0, 0, 0, CHARGED, 6, 1 + patience);
                dueOfFunds("at the time", book, 0, 96, 0, 6, 90);
                pass(book, beyond);
                dueOfPayment(beyond + " after it", book, 1, DONE, 0, 10, 0, 0, 0, WON, 6, NONE);
                dueOfFunds(beyond + " after it", book, 0, 96, 0, 0, 96);
            }
        }
    }

    private static void representedUntilATimeBefore() {
        sentence = "Terms, a tick: one that was REPRESENTED until a time before this one is LOST";
        for (int patience : new int[] {1, 2, 7, 5000}) {
            for (int beyond : new int[] {1, 2, 500}) {
                HoldBook book = doneOf100(patience);
                book.charge(1, 6);
                book.ticks(1);
                book.represent(1);
                pass(book, patience);
                dueOfPayment("at the time", book, 1, DONE, 0, 10, 0, 0, 0, REPRESENTED, 6, 1 + patience);
                dueOfFunds("at the time", book, 0, 96, 0, 6, 90);
                pass(book, beyond);
                dueOfPayment(beyond + " after it", book, 1, DONE, 0, 10, 0, 0, 0, LOST, 6, NONE);
                dueOfFunds(beyond + " after it", book, 0, 90, 0, 0, 90);
            }
        }
    }

    private static void manyTicksAreAsManyCalls() {
        sentence = "Terms, a tick, and promise 6: n ticks";
        for (int n = 1; n <= 70; n++) {
            HoldBook atOnce = busy();
            HoldBook byOne = busy();
            atOnce.ticks(n);
            for (int tick = 1; tick < n; tick++) {
                byOne.ticks(1);
            }
            due("the time", byOne.ticks(1), 6 + n);
            same(n + " ticks at once", lookAtPayments(atOnce, 0, 20), lookAtPayments(byOne, 0, 20));
            same(n + " ticks at once", lookAtSums(atOnce), lookAtSums(byOne));
        }
    }

    // ---- Terms: disputes

    private static void termsOfDisputes() {
        sentence = "Terms, DISPUTES: CHARGED: the balance grows by the amount, which is LOCKED";
        for (long amount : new long[] {1, 9, 10}) {
            HoldBook book = doneOf100(3);
            book.charge(1, amount);
            dueOfFunds("charged with " + amount, book, 0, 90 + amount, 0, amount, 90);
            due("what is locked is not FREE", book.ask(2, 0, 91, false), POOR);
            due("FREE is", book.ask(2, 0, 90, false), 90);
        }

        sentence = "Terms, DISPUTES: CHARGED until TIME and PATIENCE; REPRESENTED until TIME and PATIENCE";
        for (int patience : new int[] {1, 7, 5000}) {
            HoldBook book = doneOf100(patience);
            book.ticks(1);
            book.charge(1, 6);
            due("until when it is CHARGED", book.payment(1, 8), 1 + patience);
            pass(book, patience);
            book.represent(1);
            due("until when it is REPRESENTED", book.payment(1, 8), 1 + 2 * patience);
            dueOfFunds("LOCKED as before", book, 0, 96, 0, 6, 90);
        }

        sentence = "Terms, DISPUTES: WON: it is locked no more; LOST: and the balance is less by it again";
        for (long amount : new long[] {1, 9, 10}) {
            for (boolean won : new boolean[] {true, false}) {
                HoldBook book = doneOf100(3);
                book.charge(1, amount);
                book.represent(1);
                book.decide(1, won);
                long then = won ? 90 + amount : 90;
                dueOfFunds(amount + (won ? " won" : " lost"), book, 0, then, 0, 0, then);
                dueOfPayment("then", book, 1, DONE, 0, 10, 0, 0, 0, won ? WON : LOST, amount, NONE);
                due("there is no other dispute", book.charge(1, 1), STATE);
            }
        }
    }

    // ---- Terms: exceptions

    private static void termsOfExceptions() {
        sentence = "Terms: of several exceptions the one named first is thrown";
        refused("account(10^12 + 1, 0) when there are 16", () -> withAccounts(16),
                b -> b.account(MOST + 1, 0), ARGUMENT);
        refused("account(-10^12 - 1, 0) when there are 16", () -> withAccounts(16),
                b -> b.account(-MOST - 1, 0), ARGUMENT);
        refused("account(0, 1) when there are 16", () -> withAccounts(16), b -> b.account(0, 1), ARGUMENT);
        refused("account(0, -10^12 - 1) when there are 16", () -> withAccounts(16),
                b -> b.account(0, -MOST - 1), ARGUMENT);

        sentence = "Terms: in all calls illegal argument, also where the call would be refused";
        refused("DOUBLE", HoldBookEdges::busy, b -> b.ask(HELD_KEY, 0, 0, false), ARGUMENT);
        refused("DOUBLE, and no account", HoldBookEdges::busy, b -> b.ask(HELD_KEY, 3, 1, false), ARGUMENT);
        refused("FULL", () -> withPayments(60), b -> b.ask(60, 0, MOST + 1, true), ARGUMENT);
        refused("FULL, and no account", () -> withPayments(60), b -> b.ask(60, 1, 1, true), ARGUMENT);
        refused("POOR", HoldBookEdges::busy, b -> b.ask(NO_PAYMENT, 1, 0, true), ARGUMENT);
        refused("clear NOWHERE", HoldBookEdges::empty, b -> b.clear(1, 0, true), ARGUMENT);
        refused("clear STATE", HoldBookEdges::busy, b -> b.clear(DONE_KEY, 0, true), ARGUMENT);
        refused("clear MUCH", HoldBookEdges::busy, b -> b.clear(HELD_KEY, MOST + 1, true), ARGUMENT);
        refused("undo NOWHERE", HoldBookEdges::empty, b -> b.undo(1, -1, true), ARGUMENT);
        refused("undo STATE", HoldBookEdges::busy, b -> b.undo(DONE_KEY, -1, true), ARGUMENT);
        refused("charge NOWHERE", HoldBookEdges::empty, b -> b.charge(1, 0), ARGUMENT);
        refused("charge STATE", HoldBookEdges::busy, b -> b.charge(HELD_KEY, 0), ARGUMENT);
        refused("charge LATE", HoldBookEdges::busy, b -> b.charge(LATE_KEY, 0), ARGUMENT);
        refused("payment without it", HoldBookEdges::empty, b -> b.payment(1, 9), ARGUMENT);
    }

    // ---- Promises 1 to 6: the bounds of numbers

    private static void promisesOfNumbers() {
        nothingAtFirst();
        spansCountWithinBounds();
        accountsHaveBounds();
        amountsHaveBounds();
        leftHasABound();
        ticksHaveBounds();
        thereIsALastTime();
    }

    private static void nothingAtFirst() {
        sentence = "Promise 1: no accounts, no payments";
        int[][] spans = {{4, 3}, {Integer.MIN_VALUE, Integer.MIN_VALUE}, {0, 0}, {5000, 5000},
            {Integer.MAX_VALUE, Integer.MAX_VALUE}};
        for (int[] each : spans) {
            Making making = () -> new HoldBook(each[0], each[1]);
            HoldBook book = making.book();
            due("payments()", book.payments(), 0);
            due("key(0)", book.key(0), NONE);
            due("payment(0, 0)", book.payment(0, 0), 0);
            due("audit()", book.audit(), 0);
            refused("forget()", making, b -> b.forget(), 0);
            refused("funds(0, 0)", making, b -> b.funds(0, 0), ARGUMENT);
            refused("ask of account 0", making, b -> b.ask(1, 0, 1, true), ARGUMENT);
            refused("clear", making, b -> b.clear(1, 1, false), NOWHERE);
            refused("undo", making, b -> b.undo(1, 0, false), NOWHERE);
            refused("charge", making, b -> b.charge(1, 1), NOWHERE);
            refused("represent", making, b -> b.represent(1), NOWHERE);
            refused("decide", making, b -> b.decide(1, true), NOWHERE);
            due("the first account", book.account(0, 0), 0);
        }
    }

    private static void spansCountWithinBounds() {
        int[][] spans = {{Integer.MIN_VALUE, 1}, {-5000, 1}, {-1, 1}, {0, 1}, {1, 1}, {2, 2}, {4999, 4999},
            {5000, 5000}, {5001, 5000}, {10000, 5000}, {Integer.MAX_VALUE, 5000}};
        for (int[] span : spans) {
            holdCountsAs(span[0], span[1]);
            patienceCountsAs(span[0], span[1]);
        }
    }

    private static void holdCountsAs(int told, int hold) {
        sentence = "Promise 1: HOLD (below 1 counts as 1, above 5000 as 5000): " + told;
        HoldBook book = new HoldBookMaker(told, 10).account(10, 0).book;
        book.ask(1, 0, 10, false);
        due("until when it is held", book.payment(1, 3), hold);
        pass(book, hold - 1);
        due("a tick before", book.payment(1, 0), HELD);
        pass(book, 1);
        due("at the time", book.payment(1, 0), RELEASED);
    }

    private static void patienceCountsAs(int told, int patience) {
        sentence = "Promise 1: PATIENCE (below 1 counts as 1, above 5000 as 5000): " + told;
        HoldBook inTime = doneOf100(told);
        pass(inTime, patience);
        due("forget() in time", inTime.forget(), 0);
        due("charge in time", inTime.charge(1, 1), 1);
        due("until when it is CHARGED", inTime.payment(1, 8), 2 * patience);
        inTime.represent(1);
        due("until when it is REPRESENTED", inTime.payment(1, 8), 2 * patience);
        HoldBook late = doneOf100(told);
        pass(late, patience + 1);
        due("charge a tick too late", late.charge(1, 1), LATE);
        due("forget() then", late.forget(), 1);
    }

    private static void accountsHaveBounds() {
        sentence = "Promise 2: illegal argument: the balance is not -10^12 .. 10^12";
        for (long balance : new long[] {-MOST, -MOST + 1, -1, 0, 1, MOST - 1, MOST}) {
            HoldBook book = empty();
            due("account(" + balance + ", 0)", book.account(balance, 0), 1);
            due("its balance", book.funds(1, 0), balance);
        }
        for (long balance : new long[] {Long.MIN_VALUE, -MOST - 1, MOST + 1, Long.MAX_VALUE}) {
            refused("account(" + balance + ", 0)", HoldBookEdges::empty, b -> b.account(balance, 0), ARGUMENT);
            refused("account(" + balance + ", -10^12)", HoldBookEdges::busy, b -> b.account(balance, -MOST), ARGUMENT);
        }

        sentence = "Promise 2: illegal argument: the minimum is not -10^12 .. 0";
        for (long minimum : new long[] {-MOST, -MOST + 1, -1, 0}) {
            HoldBook book = empty();
            due("account(5, " + minimum + ")", book.account(5, minimum), 1);
            due("its FREE", book.funds(1, 3), 5 - minimum);
        }
        for (long minimum : new long[] {Long.MIN_VALUE, -MOST - 1, 1, MOST, Long.MAX_VALUE}) {
            refused("account(5, " + minimum + ")", HoldBookEdges::empty, b -> b.account(5, minimum), ARGUMENT);
            refused("account(10^12, " + minimum + ")", HoldBookEdges::busy, b -> b.account(MOST, minimum), ARGUMENT);
        }

        sentence = "Promise 2: an account: its number; illegal state: there are 16";
        for (int there = 0; there < 16; there++) {
            due("when there are " + there, withAccounts(there).account(1, 0), there);
        }
        refused("account(0, 0) when there are 16", () -> withAccounts(16), b -> b.account(0, 0), ILLEGAL_STATE);
        refused("account(10^12, -10^12) when there are 16", () -> withAccounts(16),
                b -> b.account(MOST, -MOST), ILLEGAL_STATE);
    }

    private static void amountsHaveBounds() {
        long[] beyond = {Long.MIN_VALUE, -MOST, -1, 0, MOST + 1, Long.MAX_VALUE};
        sentence = "Promise 3: illegal argument: the amount is not 1 .. 10^12";
        for (long amount : beyond) {
            for (boolean part : new boolean[] {false, true}) {
                refused("ask " + amount, HoldBookEdges::busy, b -> b.ask(NO_PAYMENT, 0, amount, part), ARGUMENT);
            }
        }
        for (long amount : new long[] {1, 2, MOST - 1, MOST}) {
            HoldBook book = new HoldBookMaker(4, 3).account(MOST, -1).book;
            due("ask " + amount, book.ask(1, 0, amount, false), amount);
        }

        sentence = "Promise 4: illegal argument: the amount is not 1 .. 10^12";
        for (long amount : beyond) {
            for (boolean more : new boolean[] {false, true}) {
                refused("clear " + amount, HoldBookEdges::busy, b -> b.clear(HELD_KEY, amount, more), ARGUMENT);
                refused("clear " + amount + " nowhere", HoldBookEdges::busy,
                        b -> b.clear(NO_PAYMENT, amount, more), ARGUMENT);
            }
        }
        for (long amount : new long[] {1, 2, MOST - 1, MOST}) {
            HoldBook book = new HoldBookMaker(4, 3).account(MOST, -1).book;
            book.ask(1, 0, MOST, false);
            due("clear " + amount, book.clear(1, amount, true), MOST - amount);
        }

        sentence = "Promise 7: illegal argument: the amount is below 1";
        for (long amount : new long[] {Long.MIN_VALUE, -MOST, -1, 0}) {
            refused("charge " + amount, HoldBookEdges::busy, b -> b.charge(DONE_KEY, amount), ARGUMENT);
        }
        due("charge 1", busy().charge(DONE_KEY, 1), 1);
        for (long amount : new long[] {MOST, MOST + 1, Long.MAX_VALUE}) {
            refused("no amount is illegal for being high: " + amount, HoldBookEdges::busy,
                    b -> b.charge(DONE_KEY, amount), MUCH);
        }
    }

    private static void leftHasABound() {
        sentence = "Promise 5: illegal argument: left is below 0";
        for (int key : new int[] {HELD_KEY, RELEASED_KEY, DONE_KEY, NO_PAYMENT}) {
            for (long left : new long[] {Long.MIN_VALUE, -MOST, -1}) {
                for (boolean tomb : new boolean[] {false, true}) {
                    refused("undo but for " + left, HoldBookEdges::busy, b -> b.undo(key, left, tomb), ARGUMENT);
                }
            }
        }
        due("undo but for 0", busy().undo(HELD_KEY, 0, false), 0);
        due("undo but for the greatest", busy().undo(HELD_KEY, Long.MAX_VALUE, false), 0);
    }

    private static void ticksHaveBounds() {
        sentence = "Promise 6: illegal argument: n is not 1 .. 1000";
        for (int n : new int[] {Integer.MIN_VALUE, -1000, -1, 0, 1001, 1000000, Integer.MAX_VALUE}) {
            refused("ticks(" + n + ")", HoldBookEdges::busy, b -> b.ticks(n), ARGUMENT);
            refused("ticks(" + n + ") at first", HoldBookEdges::empty, b -> b.ticks(n), ARGUMENT);
        }
        for (int n : new int[] {1, 2, 999, 1000}) {
            due("ticks(" + n + ")", busy().ticks(n), 6 + n);
        }
    }

    /** 1000 calls away, beyond the 512 that are promised: there is no other way to see this sentence kept. */
    private static void thereIsALastTime() {
        sentence = "Promise 6: illegal state: it would be above 1000000";
        HoldBook book = new HoldBookMaker(5000, 5000).account(10, 0).book;
        for (int call = 1; call < 1000; call++) {
            book.ticks(1000);
        }
        book.ask(1, 0, 10, false);
        due("ticks(999)", book.ticks(999), 999999);
        for (int n : new int[] {2, 3, 999, 1000}) {
            due("ticks(" + n + ") at 999999", answer(b -> b.ticks(n), book), ILLEGAL_STATE);
        }
        due("ticks(1001) at 999999", answer(b -> b.ticks(1001), book), ARGUMENT);
        due("ticks(0) at 999999", answer(b -> b.ticks(0), book), ARGUMENT);
        dueOfPayment("what is held", book, 1, HELD, 10, 0, 1004000, NONE, 0, 0, 0, NONE);
        due("ticks(1) at 999999", book.ticks(1), 1000000);
        due("ticks(1) at 1000000", answer(b -> b.ticks(1), book), ILLEGAL_STATE);
        due("ticks(1000) at 1000000", answer(b -> b.ticks(1000), book), ILLEGAL_STATE);
        due("ticks(1001) at 1000000", answer(b -> b.ticks(1001), book), ARGUMENT);
    }

    // ---- Promises 7 to 10: disputes, and what goes

    private static void promisesOfDisputes() {
        chargeNeedsTheState();
        chargeMayBeLate();
        chargeMayBeMuch();
        representNeedsTheState();
        decideNeedsTheState();
        theOverGo();
        doneLongAgoGoes();
    }

    private static void chargeNeedsTheState() {
        sentence = "Promise 7: NOWHERE";
        refused("when there are none", HoldBookEdges::empty, b -> b.charge(1, 1), NOWHERE);
        refused("when there are others", HoldBookEdges::busy, b -> b.charge(NO_PAYMENT, MOST + 1), NOWHERE);

        sentence = "Promise 7: STATE: it is not DONE, or has a dispute";
        for (int key : new int[] {HELD_KEY, PART_KEY, RELEASED_KEY, TOMB_KEY, CHARGED_KEY, REPRESENTED_KEY, WON_KEY,
            LOST_KEY}) {
            refused("charge of key " + key, HoldBookEdges::busy, b -> b.charge(key, 1), STATE);
            refused("and with too much", HoldBookEdges::busy, b -> b.charge(key, MOST), STATE);
        }
        due("charge of one that is DONE", busy().charge(DONE_KEY, 1), 1);
        Making ended = () -> {
            HoldBook book = busy();
            book.ticks(1000);
            return book;
        };
        for (int key : new int[] {CHARGED_KEY, REPRESENTED_KEY, WON_KEY, LOST_KEY}) {
            refused("STATE before LATE: key " + key, ended, b -> b.charge(key, 1), STATE);
        }
        refused("STATE, not LATE, of a tomb", ended, b -> b.charge(TOMB_KEY, 1), STATE);
    }

    private static void chargeMayBeLate() {
        sentence = "Promise 7: LATE: it was DONE more than PATIENCE ticks ago";
        for (int patience : new int[] {1, 2, 7, 4999, 5000}) {
            for (int start : new int[] {0, 3}) {
                Making done = () -> doneAt(start, patience);
                HoldBook inTime = done.book();
                pass(inTime, patience);
                due("PATIENCE ticks ago: " + patience, inTime.charge(1, 10), 1);
                Making late = () -> {
                    HoldBook book = done.book();
                    pass(book, patience + 1);
                    return book;
                };
                refused("a tick more ago than " + patience, late, b -> b.charge(1, 1), LATE);
                refused("LATE before MUCH", late, b -> b.charge(1, 11), LATE);
            }
        }
        HoldBook ended = new HoldBookMaker(4, 3).account(100, 0).book;
        ended.ask(1, 0, 10, false);
        ended.clear(1, 5, true);
        ended.ticks(7);
        due("3 ticks after its hold ended, both within one call", ended.charge(1, 5), 1);
        HoldBook later = new HoldBookMaker(4, 3).account(100, 0).book;
        later.ask(1, 0, 10, false);
        later.clear(1, 5, true);
        later.ticks(8);
        due("4 ticks after its hold ended, both within one call", later.charge(1, 5), LATE);
    }

    private static void chargeMayBeMuch() {
        sentence = "Promise 7: MUCH: the amount is above what was cleared of it";
        Making inParts = () -> {
            HoldBook book = new HoldBookMaker(4, 3).account(100, 0).book;
            book.ask(1, 0, 50, false);
            book.clear(1, 7, true);
            book.clear(1, 5, false);
            return book;
        };
        refused("13 of 12", inParts, b -> b.charge(1, 13), MUCH);
        refused("50 of 12, that had been held", inParts, b -> b.charge(1, 50), MUCH);
        refused("the greatest of 12", inParts, b -> b.charge(1, Long.MAX_VALUE), MUCH);
        for (long amount : new long[] {1, 11, 12}) {
            HoldBook book = inParts.book();
            due(amount + " of 12", book.charge(1, amount), 1);
            dueOfPayment("then", book, 1, DONE, 0, 12, 0, 0, 0, CHARGED, amount, 3);
            dueOfFunds("then", book, 0, 88 + amount, 0, amount, 88);
        }
    }

    private static void representNeedsTheState() {
        sentence = "Promise 8: a dispute that is CHARGED is REPRESENTED: 1; NOWHERE, STATE";
        refused("when there are none", HoldBookEdges::empty, b -> b.represent(1), NOWHERE);
        refused("when there are others", HoldBookEdges::busy, b -> b.represent(NO_PAYMENT), NOWHERE);
        for (int key : BUSY_KEYS) {
            if (key != CHARGED_KEY) {
                refused("represent of key " + key, HoldBookEdges::busy, b -> b.represent(key), STATE);
            }
        }
        HoldBook book = busy();
        due("represent", book.represent(CHARGED_KEY), 1);
        dueOfPayment("then", book, CHARGED_KEY, DONE, 0, 10, 0, 4, 0, REPRESENTED, 6, 11);
        dueOfFunds("then", book, 0, 914, 160, 12, 842);
        HoldBook last = doneOf100(3);
        last.charge(1, 6);
        last.ticks(3);
        due("at the last time", last.represent(1), 1);
        Making ended = () -> {
            HoldBook late = doneOf100(3);
            late.charge(1, 6);
            late.ticks(4);
            return late;
        };
        refused("a tick later, when it is WON", ended, b -> b.represent(1), STATE);
    }

    private static void decideNeedsTheState() {
        sentence = "Promise 9: a dispute that is REPRESENTED is WON or LOST: 1; NOWHERE, STATE";
        for (boolean won : new boolean[] {true, false}) {
            refused("when there are none", HoldBookEdges::empty, b -> b.decide(1, won), NOWHERE);
            refused("when there are others", HoldBookEdges::busy, b -> b.decide(NO_PAYMENT, won), NOWHERE);
            for (int key : BUSY_KEYS) {
                if (key != REPRESENTED_KEY) {
                    refused("decide of key " + key, HoldBookEdges::busy, b -> b.decide(key, won), STATE);
                }
            }
            HoldBook book = busy();
            due("decide", book.decide(REPRESENTED_KEY, won), 1);
            dueOfPayment("then", book, REPRESENTED_KEY, DONE, 0, 10, 0, 4, 0, won ? WON : LOST, 6, NONE);
            dueOfFunds("then", book, 0, won ? 914 : 908, 160, 6, won ? 848 : 842);
            HoldBook last = doneOf100(3);
            last.charge(1, 6);
            last.represent(1);
            last.ticks(3);
            due("at the last time", last.decide(1, won), 1);
            due("as it was decided", last.payment(1, 6), won ? WON : LOST);
            Making ended = () -> {
                HoldBook late = doneOf100(3);
                late.charge(1, 6);
                late.represent(1);
                late.ticks(4);
                return late;
            };
            refused("a tick later, when it is LOST", ended, b -> b.decide(1, won), STATE);
        }
    }

    private static void theOverGo() {
        sentence = "Promise 10: payments that are RELEASED, whose dispute is WON or LOST, .. go: how many";
        HoldBook book = busy();
        due("how many go", book.forget(), 5);
        for (int key : new int[] {RELEASED_KEY, TOMB_KEY, LATE_KEY, WON_KEY, LOST_KEY}) {
            due("key " + key + " went", book.payment(key, 0), 0);
            due("key " + key + " has no amount", book.payment(key, 2), NONE);
        }
        int[] stay = {HELD_KEY, PART_KEY, DONE_KEY, CHARGED_KEY, REPRESENTED_KEY};
        for (int place = 0; place < stay.length; place++) {
            due("what stays in place " + place, book.key(place), stay[place]);
        }
        due("none behind them", book.key(stay.length), NONE);
        due("how many stay", book.payments(), stay.length);
        dueOfFunds("no amount goes with them", book, 0, 914, 160, 12, 842);
        due("audit", book.audit(), 0);
        due("no more go", book.forget(), 0);

        refused("none when there are none", HoldBookEdges::empty, b -> b.forget(), 0);
        refused("none when all are HELD", () -> withPayments(60), b -> b.forget(), 0);
        HoldBook all = withPayments(60);
        all.ticks(100);
        due("all 60", all.forget(), 60);
        due("none are left", all.payments(), 0);
        due("no key is left", all.key(0), NONE);
        HoldBook everyOther = withPayments(60);
        for (int key = 1; key < 60; key += 2) {
            everyOther.undo(key, 0, false);
        }
        due("30 of 60", everyOther.forget(), 30);
        for (int place = 0; place < 30; place++) {
            due("what stays in place " + place, everyOther.key(place), 2 * place);
        }
    }

    private static void doneLongAgoGoes() {
        sentence = "Promise 10: or that were DONE more than PATIENCE ticks ago and have no dispute, go";
        for (int patience : new int[] {1, 2, 7, 5000}) {
            Making inTime = () -> {
                HoldBook book = doneAt(3, patience);
                pass(book, patience);
                return book;
            };
            refused("PATIENCE ticks ago: " + patience, inTime, b -> b.forget(), 0);
            HoldBook late = inTime.book();
            late.ticks(1);
            due("a tick more ago than " + patience, late.forget(), 1);
            HoldBook disputed = inTime.book();
            disputed.charge(1, 1);
            disputed.ticks(1);
            due("not with a dispute that is CHARGED", disputed.forget(), 0);
            disputed.represent(1);
            due("nor with one that is REPRESENTED", disputed.forget(), 0);
            pass(disputed, patience);
            due("nor at its last time", disputed.forget(), 0);
            disputed.ticks(1);
            due("but when it is LOST", disputed.forget(), 1);
        }
    }

    // ---- Promises 11 to 15: what is told

    private static void promisesOfTelling() {
        sentence = "Promise 11: what = 0 .. 3; illegal argument";
        for (int what : new int[] {Integer.MIN_VALUE, -1, 4, 5, Integer.MAX_VALUE}) {
            refused("funds(0, " + what + ")", HoldBookEdges::busy, b -> b.funds(0, what), ARGUMENT);
            refused("funds(3, " + what + ")", HoldBookEdges::busy, b -> b.funds(3, what), ARGUMENT);
        }
        dueOfFunds("account 0", busy(), 0, 914, 160, 12, 842);
        dueOfFunds("account 1", busy(), 1, -5, 0, 0, -5);
        dueOfFunds("account 2", busy(), 2, 0, 0, 0, 0);
        tellsOfPayments();
        tellsKeys();
        tellsHowMany();
        audits();
    }

    private static void tellsOfPayments() {
        sentence = "Promise 12: what = 0 .. 8; illegal argument";
        for (int key : new int[] {HELD_KEY, TOMB_KEY, NO_PAYMENT}) {
            for (int what : new int[] {Integer.MIN_VALUE, -1, 9, 10, Integer.MAX_VALUE}) {
                refused("payment(" + key + ", " + what + ")", HoldBookEdges::busy, b -> b.payment(key, what), ARGUMENT);
            }
        }

        sentence = "Promise 12: 0 there is none, else NONE without it";
        dueOfPayment("none at all", empty(), 1, 0, NONE, NONE, NONE, NONE, NONE, NONE, NONE, NONE);
        dueOfPayment("none but others", busy(), NO_PAYMENT, 0, NONE, NONE, NONE, NONE, NONE, NONE, NONE, NONE);

        sentence = "Promise 12: until when (0 if not HELD), since when (NONE if not DONE), its account (NONE without)";
        HoldBook book = busy();
        dueOfPayment("HELD", book, HELD_KEY, HELD, 100, 0, 54, NONE, 0, 0, 0, NONE);
        dueOfPayment("HELD in part", book, PART_KEY, HELD, 60, 40, 54, NONE, 0, 0, 0, NONE);
        dueOfPayment("RELEASED", book, RELEASED_KEY, RELEASED, 0, 0, 0, NONE, 0, 0, 0, NONE);
        dueOfPayment("a tomb", book, TOMB_KEY, RELEASED, 0, 0, 0, NONE, NONE, 0, 0, NONE);
        dueOfPayment("DONE", book, DONE_KEY, DONE, 0, 10, 0, 4, 0, 0, 0, NONE);
        dueOfPayment("DONE since time 0", book, LATE_KEY, DONE, 0, 10, 0, 0, 0, 0, 0, NONE);

        sentence = "Promise 12: its dispute, the amount of that, until when it is so (of 1 and 2, else NONE)";
        dueOfPayment("CHARGED", book, CHARGED_KEY, DONE, 0, 10, 0, 4, 0, CHARGED, 6, 9);
        dueOfPayment("REPRESENTED", book, REPRESENTED_KEY, DONE, 0, 10, 0, 4, 0, REPRESENTED, 6, 9);
        dueOfPayment("WON", book, WON_KEY, DONE, 0, 10, 0, 0, 0, WON, 2, NONE);
        dueOfPayment("LOST", book, LOST_KEY, DONE, 0, 10, 0, 0, 0, LOST, 2, NONE);
    }

    private static void tellsKeys() {
        sentence = "Promise 13: NONE if there is none; illegal argument: place is below 0";
        for (int place : new int[] {Integer.MIN_VALUE, -60, -1}) {
            refused("key(" + place + ")", HoldBookEdges::busy, b -> b.key(place), ARGUMENT);
            refused("key(" + place + ") when there are none", HoldBookEdges::empty, b -> b.key(place), ARGUMENT);
        }
        for (int place : new int[] {0, 1, 59, 60, 61, Integer.MAX_VALUE}) {
            due("key(" + place + ") when there are none", empty().key(place), NONE);
        }
        for (int there : new int[] {1, 2, 59, 60}) {
            HoldBook book = withPayments(there);
            due("the first of " + there, book.key(0), 0);
            due("the last of " + there, book.key(there - 1), there - 1);
            due("behind the last of " + there, book.key(there), NONE);
            due("far behind the last of " + there, book.key(Integer.MAX_VALUE), NONE);
        }

        sentence = "Promise 13: the key of the payment that has so many others before it (by keys)";
        HoldBook falling = new HoldBookMaker(4, 3).account(100, 0).book;
        for (int key = 60; key > 0; key--) {
            falling.ask(key, 0, 1, false);
            due("the lowest, that came last", falling.key(0), key);
        }
        for (int place = 0; place < 60; place++) {
            due("place " + place + " of keys that fell", falling.key(place), place + 1);
        }
        for (int place = 0; place < BUSY_KEYS.length; place++) {
            due("place " + place, busy().key(place), BUSY_KEYS[place]);
        }
    }

    private static void tellsHowMany() {
        sentence = "Promise 14: how many payments there are";
        for (int there : new int[] {0, 1, 59, 60}) {
            due("of " + there, withPayments(there).payments(), there);
        }
        due("in every state", busy().payments(), BUSY_KEYS.length);
        HoldBook full = withPayments(60);
        full.ask(60, 0, 1, false);
        full.undo(61, 0, true);
        due("of 60, after FULL and a tomb without room", full.payments(), 60);
        HoldBook ended = withPayments(60);
        ended.ticks(1000);
        due("RELEASED by time, but not gone", ended.payments(), 60);
    }

    private static void audits() {
        sentence = "Promise 15: held or locked amounts that are not those of their payments";
        due("when there are no accounts", new HoldBook(4, 3).audit(), 0);
        due("when there are 16", withAccounts(16).audit(), 0);
        due("when there are 60 payments", withPayments(60).audit(), 0);
        HoldBook tombs = sixtyTombs();
        due("when there are 60 of no account", tombs.audit(), 0);
        for (int n = 1; n <= 60; n++) {
            HoldBook book = busy();
            book.ticks(n);
            due(n + " ticks later", book.audit(), 0);
            book.forget();
            due("when those that are over went", book.audit(), 0);
        }

        sentence = "Promise 15: whose FREE is below 0, and less than when the account was told";
        HoldBook below = new HoldBook(4, 3);
        below.account(-1, 0);
        below.account(-MOST, 0);
        below.account(-MOST, -MOST);
        below.account(5, 0);
        due("below 0 as when they were told, and 0", below.audit(), 0);
        below.ask(1, 3, 5, false);
        due("less than when it was told, but not below 0", below.audit(), 0);
        below.clear(1, 5, false);
        below.charge(1, 5);
        below.represent(1);
        below.decide(1, false);
        due("a balance that was lost for good", below.audit(), 0);
    }

    // ---- Books

    /** Makes it short to tell a book with its accounts. */
    private static final class HoldBookMaker {
        final HoldBook book;

        HoldBookMaker(int hold, int patience) {
            book = new HoldBook(hold, patience);
        }

        HoldBookMaker account(long balance, long minimum) {
            book.account(balance, minimum);
            return this;
        }
    }

    /** An account of 100, and no payments. */
    private static HoldBook empty() {
        return new HoldBookMaker(4, 3).account(100, 0).book;
    }

    private static HoldBook withAccounts(int many) {
        HoldBook book = new HoldBook(4, 3);
        for (int number = 0; number < many; number++) {
            book.account(100 + number, -number);
        }
        return book;
    }

    /** Payments of 1 with the keys from 0 on, of an account of 100. */
    private static HoldBook withPayments(int many) {
        HoldBook book = new HoldBookMaker(50, 5).account(100, 0).book;
        for (int key = 0; key < many; key++) {
            book.ask(key, 0, 1, false);
        }
        return book;
    }

    private static HoldBook withPayments(int many, KeyCall endOfOne) {
        HoldBook book = withPayments(many);
        endOfOne.on(book, many / 2);
        return book;
    }

    private static HoldBook sixtyTombs() {
        HoldBook book = empty();
        for (int key = 0; key < 60; key++) {
            book.undo(key, 0, true);
        }
        return book;
    }

    /** An account of 100, of which payment 1 was cleared with 10 at time 0. */
    private static HoldBook doneOf100(int patience) {
        return doneAt(0, patience);
    }

    private static HoldBook doneAt(int time, int patience) {
        HoldBook book = new HoldBookMaker(9, patience).account(100, 0).book;
        pass(book, time);
        book.ask(1, 0, 10, false);
        book.clear(1, 10, false);
        return book;
    }

    /**
     * A payment in each state and with each dispute, all of account 0; FREE of 1 is below 0, of 2 it is 0. Time 6.
     * Of the 1000 of account 0, 100 were cleared, and 2 won and 2 times 6 charged are back: 914.
     */
    private static HoldBook busy() {
        HoldBook book = new HoldBookMaker(50, 5).account(1000, -100).account(-5, 0).account(0, 0).book;
        cleared(book, WON_KEY, 2);
        book.represent(WON_KEY);
        book.decide(WON_KEY, true);
        cleared(book, LOST_KEY, 2);
        book.represent(LOST_KEY);
        book.decide(LOST_KEY, false);
        cleared(book, LATE_KEY, 0);
        book.ticks(4);
        book.ask(HELD_KEY, 0, 100, false);
        book.ask(PART_KEY, 0, 100, false);
        book.clear(PART_KEY, 40, true);
        book.ask(RELEASED_KEY, 0, 10, false);
        book.undo(RELEASED_KEY, 0, false);
        book.undo(TOMB_KEY, 0, true);
        cleared(book, DONE_KEY, 0);
        cleared(book, CHARGED_KEY, 6);
        cleared(book, REPRESENTED_KEY, 6);
        book.represent(REPRESENTED_KEY);
        book.ticks(2);
        return book;
    }

    /** A payment of 10 that is cleared at once, and charged back if there is something to charge. */
    private static void cleared(HoldBook book, int key, long charged) {
        book.ask(key, 0, 10, false);
        book.clear(key, 10, false);
        if (charged > 0) {
            book.charge(key, charged);
        }
    }

    private static void pass(HoldBook book, int ticks) {
        for (int left = ticks; left > 0; left -= 1000) {
            book.ticks(Math.min(left, 1000));
        }
    }

    // ---- Comparing

    private static void due(String call, long got, long want) {
        due(call, Long.toString(got), Long.toString(want));
    }

    private static void due(String call, String got, String want) {
        if (!got.equals(want)) {
            wrong++;
            System.out.println(sentence + ": " + call + " answered " + got + ", due is " + want);
        }
    }

    private static void dueOfPayment(String when, HoldBook book, int key, long... want) {
        for (int what = 0; what < want.length; what++) {
            due(when + ": payment(" + key + ", " + what + ")", book.payment(key, what), want[what]);
        }
    }

    private static void dueOfFunds(String when, HoldBook book, int account, long... want) {
        for (int what = 0; what < want.length; what++) {
            due(when + ": funds(" + account + ", " + what + ")", book.funds(account, what), want[what]);
        }
    }

    private static void refused(String call, Making making, Call refused, long want) {
        refused(call, making, refused, Long.toString(want));
    }

    /** The call is answered so, and no answer, then or later, shows that it was made. */
    private static void refused(String call, Making making, Call refused, String want) {
        due(call, answer(refused, making.book()), want);
        Call[] then = {b -> 0, b -> b.ticks(1), b -> b.ticks(1000), b -> b.forget(), b -> b.account(7, -7),
            b -> b.ask(NO_PAYMENT, 0, MOST, true)};
        Look[] looks = {b -> lookAtSums(b), b -> lookAtPayments(b, 0, 20), b -> lookAtPayments(b, 20, 40),
            b -> lookAtPayments(b, 40, 60)};
        for (Call next : then) {
            for (Look look : looks) {
                HoldBook without = making.book();
                HoldBook with = making.book();
                answer(refused, with);
                due(call + " is refused, yet the next call", answer(next, with), answer(next, without));
                same(call + " is refused, yet it changed something", look.at(with), look.at(without));
            }
        }
    }

    private static void same(String what, List<String> got, List<String> want) {
        if (!got.equals(want)) {
            wrong++;
            System.out.println(sentence + ": " + what + ": " + got + ", due is " + want);
        }
    }

    private static String answer(Call call, HoldBook book) {
        try {
            return Long.toString(call.on(book));
        } catch (RuntimeException thrown) {
            return "throws." + thrown.getClass().getSimpleName();
        }
    }

    private static List<String> lookAtSums(HoldBook book) {
        List<String> seen = new ArrayList<>();
        seen.add("payments " + book.payments());
        seen.add("audit " + book.audit());
        for (int place = 0; place <= 60; place++) {
            seen.add("key " + book.key(place));
        }
        for (int number = 0; number <= 16; number++) {
            for (int what = 0; what <= 3; what++) {
                int account = number;
                int told = what;
                seen.add("funds " + answer(b -> b.funds(account, told), book));
            }
        }
        return seen;
    }

    /** Only some places at once, to stay within the calls that are promised. */
    private static List<String> lookAtPayments(HoldBook book, int from, int to) {
        List<String> seen = new ArrayList<>();
        for (int place = from; place < to && place < book.payments(); place++) {
            int key = book.key(place);
            for (int what = 0; what <= 8; what++) {
                seen.add("payment " + key + " " + what + " " + book.payment(key, what));
            }
        }
        return seen;
    }
}
