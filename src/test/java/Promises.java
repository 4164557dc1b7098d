import java.util.function.Consumer;
import java.util.function.Supplier;

/** What the tests share that go through the document sentence by sentence. */
abstract class Promises {
    static final int CURRENT = InkBank.CURRENT;
    static final int SAVINGS = InkBank.SAVINGS;
    static final int QUILL = InkBank.QUILL;
    static final int VAULT = InkBank.VAULT;

    static final Class<?> INDEX = IndexOutOfBoundsException.class;
    static final Class<?> ARGUMENT = IllegalArgumentException.class;
    static final Class<?> STATE = IllegalStateException.class;
    static final Class<?> UNSUPPORTED = UnsupportedOperationException.class;
    static final Class<?> ELEMENT = java.util.NoSuchElementException.class;

    /** A call that asks for an account, a transfer or a movement by its number. */
    interface Question {
        Object ask(InkBank bank, int number);
    }

    /** Returns a bank with one account of each of these kinds. */
    static InkBank with(int... kinds) {
        return Banks.with(kinds);
    }

    /** Returns a bank whose account 0 has this balance, and the limit 500 if that is negative. */
    static InkBank holding(int kind, int balance) {
        InkBank bank = with(kind);
        if (balance < 0) {
            bank.setLimit(0, 500);
            bank.withdraw(0, -balance);
        }
        Banks.fill(bank, 0, balance);
        return bank;
    }

    /** Returns numbers that are no index of so many things: just outside, and far off. */
    static int[] outside(int count) {
        return new int[] {-1, count, count + 1, -count - 1, Integer.MIN_VALUE, Integer.MAX_VALUE};
    }

    /** Returns numbers outside a range: just outside, and far off. */
    static int[] outside(int least, int most) {
        return new int[] {least - 1, most + 1, least - 1000, most + 1000, Integer.MIN_VALUE, Integer.MAX_VALUE};
    }

    static void same(String what, Object got, Object due) {
        Check.same(what, got, due);
    }

    static void refused(String what, InkBank bank, Class<?> due, Runnable call) {
        Check.refused(what, bank, due, call);
    }

    /** Checks it on a bank of its own: one bank is good for 512 calls, and the check makes many. */
    static void refused(String what, Supplier<InkBank> made, Class<?> due, Consumer<InkBank> call) {
        InkBank bank = made.get();
        Check.refused(what, bank, due, () -> call.accept(bank));
    }

    /** Checks that a call is refused for each account that doesn't exist, and answered for the eighth. */
    static void refusedForNoAccount(Question question) {
        InkBank none = new InkBank();
        refused("no account at all", none, INDEX, () -> question.ask(none, 0));
        InkBank two = with(QUILL, QUILL);
        for (int account : outside(2)) {
            refused("account " + account + " of two", two, INDEX, () -> question.ask(two, account));
        }
        InkBank eight = with(QUILL, QUILL, QUILL, QUILL, QUILL, QUILL, QUILL, QUILL);
        eight.deposit(7, 1);
        same("account 7 of eight", question.ask(eight, 7) != null, true);
        refused("account 8 of eight", eight, INDEX, () -> question.ask(eight, 8));
    }
}
