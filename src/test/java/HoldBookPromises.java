import java.util.ArrayList;
import java.util.List;

/** For each promise of the document: ordinary inputs, the edges it names, and wrong inputs. */
public final class HoldBookPromises {
    private static final long MOST = 1000000000000L;
    private static final int HIGHEST_KEY = 1000000;

    private static final int HELD = 1;
    private static final int RELEASED = 2;
    private static final int DONE = 3;

    private static final int CHARGED = 1;
    private static final int REPRESENTED = 2;
    private static final int WON = 3;
    private static final int LOST = 4;

    private static int wrong = 0;
    private static int promise = 0;

    private interface Call {
        long answer();
    }

    public static void main(String[] args) {
        aNewObject();
        account();
        ask();
        clear();
        undo();
        ticks();
        charge();
        represent();
        decide();
        forget();
        funds();
        payment();
        key();
        payments();
        audit();
        System.out.println(wrong == 0 ? "all promises hold" : wrong + " answers are not as due");
        if (wrong != 0) {
            System.exit(1);
        }
    }

    private static void aNewObject() {
        promise = 1;
        HoldBook book = new HoldBook(3, 2);
        due("payments() at first", book.payments(), 0);
        due("key(0) at first", book.key(0), HoldBook.NONE);
        due("audit() at first", book.audit(), 0);
        due("forget() at first", book.forget(), 0);
        throwsArgument("funds(0, 0) at first", book, () -> book.funds(0, 0));
        due("ticks(1) at first", book.ticks(1), 1);

        int[][] spans = {{Integer.MIN_VALUE, 1}, {-1, 1}, {0, 1}, {1, 1}, {2, 2}, {4999, 4999}, {5000, 5000},
                {5001, 5000}, {Integer.MAX_VALUE, 5000}};
        for (int[] span : spans) {
            HoldBook holding = new HoldBook(span[0], 7);
            holding.account(10, 0);
            holding.ask(1, 0, 1, false);
            due("until when it is held with HOLD " + span[0], holding.payment(1, 3), span[1]);
            HoldBook patient = bookWithDone(7, span[0]);
            patient.charge(1, 1);
            due("until when it is charged with PATIENCE " + span[0], patient.payment(1, 8), span[1]);
        }
    }

    private static void account() {
        promise = 2;
        HoldBook book = new HoldBook(3, 2);
        throwsArgument("account(10^12 + 1, 0)", book, () -> book.account(MOST + 1, 0));
        throwsArgument("account(-10^12 - 1, 0)", book, () -> book.account(-MOST - 1, 0));
        throwsArgument("account(Long.MIN_VALUE, 0)", book, () -> book.account(Long.MIN_VALUE, 0));
        throwsArgument("account(0, 1)", book, () -> book.account(0, 1));
        throwsArgument("account(0, -10^12 - 1)", book, () -> book.account(0, -MOST - 1));
        throwsArgument("account(0, Long.MAX_VALUE)", book, () -> book.account(0, Long.MAX_VALUE));
        due("account(10^12, -10^12)", book.account(MOST, -MOST), 0);
        due("account(-10^12, 0)", book.account(-MOST, 0), 1);
        due("its balance", book.funds(0, 0), MOST);
        due("its FREE", book.funds(0, 3), 2 * MOST);
        due("the other's FREE", book.funds(1, 3), -MOST);
        for (int number = 2; number < 16; number++) {
            due("account " + number, book.account(number, -number), number);
        }
        throwsState("account(0, 0) when there are 16", book, () -> book.account(0, 0));
        throwsArgument("account(0, 1) when there are 16", book, () -> book.account(0, 1));
        due("the balance of the last", book.funds(15, 0), 15);
        due("the FREE of the last", book.funds(15, 3), 30);
    }

    private static void ask() {
        promise = 3;
        HoldBook book = new HoldBook(3, 2);
        book.account(100, -20);
        book.account(-5, 0);
        book.account(MOST, -MOST);
        due("ask above FREE", book.ask(1, 0, 121, false), HoldBook.POOR);
        due("nothing came", book.payments(), 0);
        due("ask all of FREE", book.ask(1, 0, 120, false), 120);
        due("ask when FREE is 0", book.ask(2, 0, 1, true), HoldBook.POOR);
        due("ask when FREE is below 0", book.ask(2, 1, 1, true), HoldBook.POOR);
        due("DOUBLE before POOR", book.ask(1, 1, 1, false), HoldBook.DOUBLE);
        due("its account", book.payment(1, 5), 0);
        due("it is HELD", book.payment(1, 0), HELD);
        due("held of the account", book.funds(0, 1), 120);
        due("the balance is as before", book.funds(0, 0), 100);
        book.ticks(2);
        due("ask(0, 2, 10^12)", book.ask(0, 2, MOST, true), MOST);
        due("until TIME and HOLD", book.payment(0, 3), 5);
        due("ask the rest in part", book.ask(HIGHEST_KEY, 2, MOST, true), MOST);
        due("DOUBLE of a key", book.ask(HIGHEST_KEY, 2, 1, true), HoldBook.DOUBLE);

        HoldBook parts = new HoldBook(3, 2);
        parts.account(10, 0);
        due("a part will do, but is not needed", parts.ask(1, 0, 4, true), 4);
        due("no part will do", parts.ask(2, 0, 7, false), HoldBook.POOR);
        due("a part is held", parts.ask(2, 0, 7, true), 6);

        throwsArgument("ask(-1, ..)", book, () -> book.ask(-1, 0, 1, false));
        throwsArgument("ask(1000001, ..)", book, () -> book.ask(HIGHEST_KEY + 1, 0, 1, false));
        throwsArgument("ask of no account", book, () -> book.ask(9, 3, 1, false));
        throwsArgument("ask of account -1", book, () -> book.ask(9, -1, 1, false));
        throwsArgument("ask of account 16", book, () -> book.ask(9, 16, 1, false));
        throwsArgument("ask 0", book, () -> book.ask(9, 0, 0, true));
        throwsArgument("ask -1", book, () -> book.ask(9, 0, -1, true));
        throwsArgument("ask 10^12 + 1", book, () -> book.ask(9, 0, MOST + 1, true));
        throwsArgument("illegal before DOUBLE", book, () -> book.ask(1, 0, 0, true));
        full();
    }

    private static void full() {
        HoldBook book = new HoldBook(3, 2);
        book.account(100, 0);
        for (int key = 0; key < 60; key++) {
            due("ask of key " + key, book.ask(key, 0, 1, false), 1);
        }
        due("ask when there are 60", book.ask(60, 0, 1, false), HoldBook.FULL);
        due("FULL before POOR", book.ask(60, 0, 1000, false), HoldBook.FULL);
        due("DOUBLE before FULL", book.ask(59, 0, 1, false), HoldBook.DOUBLE);
        due("undo with a tomb when there are 60", book.undo(60, 0, true), HoldBook.NOWHERE);
        due("no tomb came", book.payment(60, 0), 0);
        due("payments()", book.payments(), 60);
        throwsArgument("illegal before FULL", book, () -> book.ask(60, 1, 1, false));
        book.undo(7, 0, false);
        due("a released one counts", book.ask(60, 0, 1, false), HoldBook.FULL);
        due("one goes", book.forget(), 1);
        due("ask again", book.ask(60, 0, 1, false), 1);
    }

    private static void clear() {
        promise = 4;
        HoldBook book = new HoldBook(3, 2);
        book.account(100, 0);
        book.ask(1, 0, 50, false);
        due("clear nowhere", book.clear(2, 1, false), HoldBook.NOWHERE);
        due("clear too much", book.clear(1, 51, true), HoldBook.MUCH);
        due("clear a part", book.clear(1, 20, true), 30);
        due("it is HELD still", book.payment(1, 0), HELD);
        due("until when", book.payment(1, 3), 3);
        due("what was cleared", book.payment(1, 2), 20);
        due("the balance", book.funds(0, 0), 80);
        due("held of the account", book.funds(0, 1), 30);
        due("FREE", book.funds(0, 3), 50);
        due("above what is held still", book.clear(1, 31, false), HoldBook.MUCH);
        book.ticks(1);
        due("clear the last part", book.clear(1, 10, false), 0);
        due("it is DONE", book.payment(1, 0), DONE);
        due("since", book.payment(1, 4), 1);
        due("held until no time", book.payment(1, 3), 0);
        due("cleared in two parts", book.payment(1, 2), 30);
        due("the balance then", book.funds(0, 0), 70);
        due("nothing is held", book.funds(0, 1), 0);
        due("FREE then", book.funds(0, 3), 70);
        due("clear when DONE", book.clear(1, 1, true), HoldBook.STATE);
        due("STATE before MUCH", book.clear(1, 1000, true), HoldBook.STATE);

        book.ask(2, 0, 10, false);
        due("clear all, though more may come", book.clear(2, 10, true), 0);
        due("it is DONE too", book.payment(2, 0), DONE);
        book.ask(3, 0, 10, false);
        book.undo(3, 0, false);
        due("clear when RELEASED", book.clear(3, 1, true), HoldBook.STATE);

        throwsArgument("clear 0", book, () -> book.clear(1, 0, true));
        throwsArgument("clear -1", book, () -> book.clear(1, -1, true));
        throwsArgument("clear 10^12 + 1", book, () -> book.clear(99, MOST + 1, true));
        throwsArgument("clear(-1, ..)", book, () -> book.clear(-1, 1, true));
        throwsArgument("clear(1000001, ..)", book, () -> book.clear(HIGHEST_KEY + 1, 1, true));
        due("clear 10^12 nowhere", book.clear(99, MOST, true), HoldBook.NOWHERE);
    }

    private static void undo() {
        promise = 5;
        HoldBook book = new HoldBook(3, 2);
        book.account(100, 0);
        due("undo nowhere", book.undo(5, 0, false), HoldBook.NOWHERE);
        due("nothing came", book.payments(), 0);
        due("undo nowhere, with a tomb", book.undo(5, 9, true), HoldBook.NOWHERE);
        due("a tomb came", book.payments(), 1);
        dueOfPayment("the tomb", book, 5, RELEASED, 0, 0, 0, HoldBook.NONE, HoldBook.NONE, 0, 0, HoldBook.NONE);
        due("undo a tomb", book.undo(5, 1, true), 0);
        due("ask of a tomb's key", book.ask(5, 0, 1, false), HoldBook.DOUBLE);

        book.ask(1, 0, 50, false);
        due("undo but for 49", book.undo(1, 49, false), 49);
        due("it is HELD", book.payment(1, 0), HELD);
        due("until when", book.payment(1, 3), 3);
        due("held of the account", book.funds(0, 1), 49);
        due("undo but for 1", book.undo(1, 1, false), 1);
        due("undo but for all", book.undo(1, 1, false), 0);
        dueOfPayment("undone", book, 1, RELEASED, 0, 0, 0, HoldBook.NONE, 0, 0, 0, HoldBook.NONE);
        due("held no more", book.funds(0, 1), 0);
        due("the balance is as before", book.funds(0, 0), 100);
        due("undo when RELEASED", book.undo(1, 7, false), 0);

        book.ask(2, 0, 50, false);
        due("undo wholly", book.undo(2, 0, false), 0);
        due("it is RELEASED", book.payment(2, 0), RELEASED);
        book.ask(3, 0, 50, false);
        due("undo but for more than is held", book.undo(3, Long.MAX_VALUE, false), 0);
        due("it is RELEASED too", book.payment(3, 0), RELEASED);
        book.ask(4, 0, 50, false);
        book.clear(4, 1, true);
        due("undo when something is cleared", book.undo(4, 1, false), HoldBook.STATE);
        due("held as before", book.payment(4, 1), 49);
        book.clear(4, 1, false);
        due("undo when DONE", book.undo(4, 0, false), HoldBook.STATE);

        throwsArgument("undo but for -1", book, () -> book.undo(9, -1, true));
        throwsArgument("undo but for Long.MIN_VALUE", book, () -> book.undo(1, Long.MIN_VALUE, true));
        throwsArgument("undo(-1, ..)", book, () -> book.undo(-1, 0, true));
        throwsArgument("undo(1000001, ..)", book, () -> book.undo(HIGHEST_KEY + 1, 0, true));
        due("undo(1000000, ..)", book.undo(HIGHEST_KEY, 0, true), HoldBook.NOWHERE);
        due("undo(0, ..)", book.undo(0, 0, true), HoldBook.NOWHERE);
        due("two tombs more", book.payments(), 7);
    }

    private static void ticks() {
        promise = 6;
        HoldBook book = new HoldBook(5, 2);
        book.account(100, 0);
        book.ask(1, 0, 10, false);
        book.ask(2, 0, 10, false);
        book.clear(2, 4, true);
        due("ticks(4)", book.ticks(4), 4);
        due("HELD before the time", book.payment(1, 0), HELD);
        due("HELD before the time, in part", book.payment(2, 0), HELD);
        due("ticks(1)", book.ticks(1), 5);
        dueOfPayment("at the time", book, 1, RELEASED, 0, 0, 0, HoldBook.NONE, 0, 0, 0, HoldBook.NONE);
        dueOfPayment("at the time, in part", book, 2, DONE, 0, 4, 0, 5, 0, 0, 0, HoldBook.NONE);
        due("held no more", book.funds(0, 1), 0);
        due("the balance", book.funds(0, 0), 96);

        book.ask(3, 0, 10, false);
        book.clear(3, 4, true);
        due("ticks(1000)", book.ticks(1000), 1005);
        due("DONE since the time that it was held until", book.payment(3, 4), 10);

        throwsArgument("ticks(0)", book, () -> book.ticks(0));
        throwsArgument("ticks(-1)", book, () -> book.ticks(-1));
        throwsArgument("ticks(1001)", book, () -> book.ticks(1001));
        throwsArgument("ticks(Integer.MAX_VALUE)", book, () -> book.ticks(Integer.MAX_VALUE));
        theDeadlinesOfDisputes();
        theLastTime();
    }

    private static void theDeadlinesOfDisputes() {
        HoldBook book = bookWithDone(9, 3);
        book.charge(1, 10);
        book.ticks(3);
        due("CHARGED at its time", book.payment(1, 6), CHARGED);
        book.ticks(1);
        due("WON after its time", book.payment(1, 6), WON);
        due("the balance of WON", book.funds(0, 0), 100);
        due("locked no more", book.funds(0, 2), 0);
        due("FREE", book.funds(0, 3), 100);

        HoldBook other = bookWithDone(9, 3);
        other.charge(1, 10);
        other.represent(1);
        other.ticks(3);
        due("REPRESENTED at its time", other.payment(1, 6), REPRESENTED);
        other.ticks(1);
        due("LOST after its time", other.payment(1, 6), LOST);
        due("the balance of LOST", other.funds(0, 0), 90);
        due("locked no more", other.funds(0, 2), 0);
        due("FREE", other.funds(0, 3), 90);
    }

    /** The last time is 1000 calls away, beyond the 512 that are promised: there is no other way to see it kept. */
    private static void theLastTime() {
        HoldBook book = new HoldBook(5000, 5000);
        for (int call = 1; call < 1000; call++) {
            book.ticks(1000);
        }
        due("ticks(999)", book.ticks(999), 999999);
        throwsState("ticks(2) above the last time", book, () -> book.ticks(2));
        throwsState("ticks(1000) above the last time", book, () -> book.ticks(1000));
        throwsArgument("illegal argument before illegal state", book, () -> book.ticks(1001));
        due("ticks(1) to the last time", book.ticks(1), 1000000);
        throwsState("ticks(1) at the last time", book, () -> book.ticks(1));
        book.account(5, 0);
        book.ask(1, 0, 5, false);
        due("held until after the last time", book.payment(1, 3), 1005000);
    }

    private static void charge() {
        promise = 7;
        HoldBook book = bookWithDone(9, 3);
        book.ask(2, 0, 10, false);
        book.ask(3, 0, 10, false);
        book.undo(3, 0, false);
        due("charge nowhere", book.charge(9, 1), HoldBook.NOWHERE);
        due("charge when HELD", book.charge(2, 1), HoldBook.STATE);
        due("charge when RELEASED", book.charge(3, 1), HoldBook.STATE);
        due("STATE before MUCH", book.charge(2, 1000), HoldBook.STATE);
        due("charge above what was cleared", book.charge(1, 11), HoldBook.MUCH);
        due("charge far above what was cleared", book.charge(1, Long.MAX_VALUE), HoldBook.MUCH);
        book.ticks(3);
        due("charge PATIENCE ticks after", book.charge(1, 6), 1);
        dueOfPayment("charged", book, 1, DONE, 0, 10, 0, 0, 0, CHARGED, 6, 6);
        due("the balance", book.funds(0, 0), 96);
        due("LOCKED", book.funds(0, 2), 6);
        due("FREE", book.funds(0, 3), 80);
        due("charge again", book.charge(1, 1), HoldBook.STATE);
        book.ticks(4);
        due("charge when WON", book.charge(1, 1), HoldBook.STATE);

        HoldBook late = bookWithDone(9, 3);
        late.ticks(4);
        due("charge more than PATIENCE ticks after", late.charge(1, 1), HoldBook.LATE);
        due("LATE before MUCH", late.charge(1, 11), HoldBook.LATE);
        due("no dispute", late.payment(1, 6), 0);
        due("charge all", bookWithDone(9, 3).charge(1, 10), 1);

        throwsArgument("charge 0", book, () -> book.charge(9, 0));
        throwsArgument("charge -1", book, () -> book.charge(1, -1));
        throwsArgument("charge(-1, ..)", book, () -> book.charge(-1, 1));
        throwsArgument("charge(1000001, ..)", book, () -> book.charge(HIGHEST_KEY + 1, 1));
        due("charge(1000000, ..)", book.charge(HIGHEST_KEY, 1), HoldBook.NOWHERE);
        due("charge(0, ..)", book.charge(0, MOST + 1), HoldBook.NOWHERE);
    }

    private static void represent() {
        promise = 8;
        HoldBook book = bookWithDone(9, 3);
        book.ask(2, 0, 10, false);
        due("represent nowhere", book.represent(9), HoldBook.NOWHERE);
        due("represent without a dispute", book.represent(1), HoldBook.STATE);
        due("represent when HELD", book.represent(2), HoldBook.STATE);
        book.charge(1, 6);
        book.ticks(3);
        due("represent", book.represent(1), 1);
        dueOfPayment("represented", book, 1, DONE, 0, 10, 0, 0, 0, REPRESENTED, 6, 6);
        due("the balance is as before", book.funds(0, 0), 96);
        due("LOCKED as before", book.funds(0, 2), 6);
        due("represent again", book.represent(1), HoldBook.STATE);
        book.ticks(4);
        due("represent when LOST", book.represent(1), HoldBook.STATE);

        HoldBook won = bookWithDone(9, 3);
        won.charge(1, 6);
        won.ticks(4);
        due("represent when WON", won.represent(1), HoldBook.STATE);

        throwsArgument("represent(-1)", book, () -> book.represent(-1));
        throwsArgument("represent(1000001)", book, () -> book.represent(HIGHEST_KEY + 1));
        due("represent(1000000)", book.represent(HIGHEST_KEY), HoldBook.NOWHERE);
        due("represent(0)", book.represent(0), HoldBook.NOWHERE);
    }

    private static void decide() {
        promise = 9;
        HoldBook book = bookWithDone(9, 3);
        due("decide nowhere", book.decide(9, true), HoldBook.NOWHERE);
        due("decide without a dispute", book.decide(1, true), HoldBook.STATE);
        book.charge(1, 6);
        due("decide when CHARGED", book.decide(1, false), HoldBook.STATE);
        book.represent(1);
        due("decide: won", book.decide(1, true), 1);
        dueOfPayment("won", book, 1, DONE, 0, 10, 0, 0, 0, WON, 6, HoldBook.NONE);
        due("the balance of WON", book.funds(0, 0), 96);
        due("locked no more", book.funds(0, 2), 0);
        due("FREE of WON", book.funds(0, 3), 96);
        due("decide when WON", book.decide(1, false), HoldBook.STATE);
        book.ticks(9);
        due("WON for good", book.payment(1, 6), WON);

        HoldBook lost = bookWithDone(9, 3);
        lost.charge(1, 6);
        lost.represent(1);
        lost.ticks(3);
        due("decide at its time: lost", lost.decide(1, false), 1);
        dueOfPayment("lost", lost, 1, DONE, 0, 10, 0, 0, 0, LOST, 6, HoldBook.NONE);
        due("the balance of LOST", lost.funds(0, 0), 90);
        due("locked no more", lost.funds(0, 2), 0);
        due("FREE of LOST", lost.funds(0, 3), 90);
        due("decide when LOST", lost.decide(1, true), HoldBook.STATE);

        throwsArgument("decide(-1, ..)", book, () -> book.decide(-1, true));
        throwsArgument("decide(1000001, ..)", book, () -> book.decide(HIGHEST_KEY + 1, true));
        due("decide(1000000, ..)", book.decide(HIGHEST_KEY, true), HoldBook.NOWHERE);
        due("decide(0, ..)", book.decide(0, true), HoldBook.NOWHERE);
    }

    private static void forget() {
        promise = 10;
        HoldBook book = new HoldBook(9, 3);
        book.account(100, 0);
        for (int key = 1; key <= 6; key++) {
            book.ask(key, 0, 10, false);
        }
        for (int key = 2; key <= 5; key++) {
            book.clear(key, 10, false);
        }
        book.undo(6, 0, false);
        book.undo(7, 0, true);
        due("those that are RELEASED go", book.forget(), 2);
        due("key 6", book.payment(6, 0), 0);
        due("key 7", book.payment(7, 0), 0);
        book.ticks(3);
        book.charge(3, 5);
        book.charge(4, 5);
        book.represent(4);
        book.charge(5, 5);
        book.represent(5);
        due("none that was DONE PATIENCE ticks ago", book.forget(), 0);
        book.decide(5, true);
        due("one that is WON goes", book.forget(), 1);
        due("key 5", book.payment(5, 0), 0);
        book.ticks(1);
        due("one that was DONE more than PATIENCE ticks ago goes", book.forget(), 1);
        due("key 2", book.payment(2, 0), 0);
        due("HELD stays", book.payment(1, 0), HELD);
        due("CHARGED stays", book.payment(3, 6), CHARGED);
        due("REPRESENTED stays", book.payment(4, 6), REPRESENTED);
        book.decide(4, false);
        due("one that is LOST goes", book.forget(), 1);
        due("key 4", book.payment(4, 0), 0);
        due("none more", book.forget(), 0);
        due("payments()", book.payments(), 2);
        due("key(0)", book.key(0), 1);
        due("key(1)", book.key(1), 3);
        due("the balance", book.funds(0, 0), 70);
        due("held", book.funds(0, 1), 10);
        due("LOCKED", book.funds(0, 2), 5);
        due("a key that went may come again", book.ask(6, 0, 1, false), 1);
        dueOfPayment("it comes as new", book, 6, HELD, 1, 0, 13, HoldBook.NONE, 0, 0, 0, HoldBook.NONE);
        book.undo(1, 0, false);
        book.undo(6, 0, false);
        due("the first and the last by keys go", book.forget(), 2);
        due("the one between them stays", book.key(0), 3);
    }

    private static void funds() {
        promise = 11;
        HoldBook book = new HoldBook(9, 3);
        throwsArgument("funds of no account", book, () -> book.funds(0, 0));
        book.account(100, -30);
        book.account(7, 0);
        book.ask(1, 0, 40, false);
        book.ask(2, 0, 15, false);
        book.clear(2, 15, false);
        book.charge(2, 5);
        due("the balance", book.funds(0, 0), 90);
        due("held", book.funds(0, 1), 40);
        due("LOCKED", book.funds(0, 2), 5);
        due("FREE", book.funds(0, 3), 75);
        due("the other's balance", book.funds(1, 0), 7);
        due("the other's held", book.funds(1, 1), 0);
        due("the other's LOCKED", book.funds(1, 2), 0);
        due("the other's FREE", book.funds(1, 3), 7);
        throwsArgument("funds(2, 0)", book, () -> book.funds(2, 0));
        throwsArgument("funds(-1, 0)", book, () -> book.funds(-1, 0));
        throwsArgument("funds(16, 0)", book, () -> book.funds(16, 0));
        throwsArgument("funds(Integer.MAX_VALUE, 0)", book, () -> book.funds(Integer.MAX_VALUE, 0));
        throwsArgument("funds(0, -1)", book, () -> book.funds(0, -1));
        throwsArgument("funds(0, 4)", book, () -> book.funds(0, 4));
    }

    private static void payment() {
        promise = 12;
        HoldBook book = new HoldBook(9, 3);
        book.account(0, 0);
        book.account(100, 0);
        due("there is none", book.payment(1, 0), 0);
        for (int what = 1; what <= 8; what++) {
            due("NONE without it: " + what, book.payment(1, what), HoldBook.NONE);
        }
        book.ticks(2);
        book.ask(1, 1, 40, false);
        book.clear(1, 10, true);
        dueOfPayment("held", book, 1, HELD, 30, 10, 11, HoldBook.NONE, 1, 0, 0, HoldBook.NONE);
        book.ticks(2);
        book.clear(1, 10, false);
        dueOfPayment("done", book, 1, DONE, 0, 20, 0, 4, 1, 0, 0, HoldBook.NONE);
        book.ticks(1);
        book.charge(1, 15);
        dueOfPayment("charged", book, 1, DONE, 0, 20, 0, 4, 1, CHARGED, 15, 8);
        book.ticks(2);
        book.represent(1);
        dueOfPayment("represented", book, 1, DONE, 0, 20, 0, 4, 1, REPRESENTED, 15, 10);
        book.decide(1, true);
        dueOfPayment("won", book, 1, DONE, 0, 20, 0, 4, 1, WON, 15, HoldBook.NONE);
        due("payment(0, 0)", book.payment(0, 0), 0);
        due("payment(1000000, 0)", book.payment(HIGHEST_KEY, 0), 0);
        throwsArgument("payment(-1, 0)", book, () -> book.payment(-1, 0));
        throwsArgument("payment(1000001, 0)", book, () -> book.payment(HIGHEST_KEY + 1, 0));
        throwsArgument("payment(1, -1)", book, () -> book.payment(1, -1));
        throwsArgument("payment(1, 9)", book, () -> book.payment(1, 9));
        throwsArgument("payment(2, 9) without it", book, () -> book.payment(2, 9));
    }

    private static void key() {
        promise = 13;
        HoldBook book = new HoldBook(9, 3);
        book.account(100, 0);
        int[] coming = {50, HIGHEST_KEY, 7, 0, 51, 49};
        int[] sorted = {0, 7, 49, 50, 51, HIGHEST_KEY};
        for (int each : coming) {
            book.ask(each, 0, 1, false);
        }
        for (int place = 0; place < sorted.length; place++) {
            due("key(" + place + ")", book.key(place), sorted[place]);
        }
        due("key behind the last", book.key(6), HoldBook.NONE);
        due("key(59)", book.key(59), HoldBook.NONE);
        due("key(60)", book.key(60), HoldBook.NONE);
        due("key(Integer.MAX_VALUE)", book.key(Integer.MAX_VALUE), HoldBook.NONE);
        book.undo(7, 0, false);
        due("a released one has its place", book.key(1), 7);
        book.forget();
        due("one that went has none", book.key(1), 49);
        throwsArgument("key(-1)", book, () -> book.key(-1));
        throwsArgument("key(Integer.MIN_VALUE)", book, () -> book.key(Integer.MIN_VALUE));
    }

    private static void payments() {
        promise = 14;
        HoldBook book = new HoldBook(9, 3);
        book.account(5, 0);
        book.ask(1, 0, 5, false);
        due("one", book.payments(), 1);
        book.ask(1, 0, 5, false);
        book.ask(2, 0, 5, false);
        book.undo(3, 0, false);
        due("DOUBLE, POOR and NOWHERE bring none", book.payments(), 1);
        book.undo(3, 0, true);
        due("a tomb counts", book.payments(), 2);
        book.clear(1, 5, false);
        due("DONE counts", book.payments(), 2);
        book.forget();
        due("those that went don't", book.payments(), 1);
    }

    private static void audit() {
        promise = 15;
        HoldBook book = new HoldBook(2, 2);
        book.account(100, -20);
        book.account(-5, 0);
        book.account(-5, -3);
        due("FREE below 0 as when the account was told", book.audit(), 0);
        book.ask(1, 0, 30, false);
        book.ask(2, 0, 90, false);
        book.undo(3, 0, true);
        due("with amounts held", book.audit(), 0);
        book.clear(1, 10, true);
        due("with a part cleared", book.audit(), 0);
        book.clear(2, 80, false);
        book.charge(2, 80);
        due("with an amount locked", book.audit(), 0);
        book.ticks(2);
        due("with holds ended", book.audit(), 0);
        book.represent(2);
        book.decide(2, false);
        due("with a dispute lost", book.audit(), 0);
        book.charge(1, 10);
        book.ticks(3);
        due("with a dispute won", book.audit(), 0);
        book.forget();
        due("with payments gone", book.audit(), 0);
    }

    /** A book with one account of 100, of which payment 1 was cleared with 10 at time 0. */
    private static HoldBook bookWithDone(int hold, int patience) {
        HoldBook book = new HoldBook(hold, patience);
        book.account(100, 0);
        book.ask(1, 0, 10, false);
        book.clear(1, 10, false);
        return book;
    }

    private static void due(String call, long got, long want) {
        if (got != want) {
            wrong++;
            System.out.println("promise " + promise + ": " + call + " answered " + got + ", due is " + want);
        }
    }

    private static void dueOfPayment(String call, HoldBook book, int key, long... want) {
        for (int what = 0; what < want.length; what++) {
            due(call + ": payment(" + key + ", " + what + ")", book.payment(key, what), want[what]);
        }
    }

    private static void throwsArgument(String call, HoldBook book, Call made) {
        dueThrow(call, book, made, IllegalArgumentException.class);
    }

    private static void throwsState(String call, HoldBook book, Call made) {
        dueThrow(call, book, made, IllegalStateException.class);
    }

    private static void dueThrow(String call, HoldBook book, Call made, Class<?> want) {
        List<Long> before = seen(book);
        Class<?> got = null;
        try {
            made.answer();
        } catch (RuntimeException thrown) {
            got = thrown.getClass();
        }
        if (got != want) {
            wrong++;
            System.out.println("promise " + promise + ": " + call + " threw " + got + ", due is " + want);
        }
        if (!before.equals(seen(book))) {
            wrong++;
            System.out.println("promise " + promise + ": " + call + " throws, yet changed something");
        }
    }

    /** All that the book tells of itself but the time. */
    private static List<Long> seen(HoldBook book) {
        List<Long> all = new ArrayList<>();
        for (int place = 0; place < book.payments(); place++) {
            int key = book.key(place);
            all.add((long) key);
            for (int what = 0; what <= 8; what++) {
                all.add(book.payment(key, what));
            }
        }
        for (int account = 0; account < 16; account++) {
            for (int what = 0; what <= 3; what++) {
                try {
                    all.add(book.funds(account, what));
                } catch (IllegalArgumentException none) {
                    all.add(null);
                }
            }
        }
        return all;
    }
}
