/** What the tests share that go through the document sentence by sentence. */
abstract class Promises {
    static final int CURRENT = InkBank.CURRENT;
    static final int SAVINGS = InkBank.SAVINGS;
    static final int QUILL = InkBank.QUILL;
    static final int VAULT = InkBank.VAULT;

    static final Class<?> INDEX = IndexOutOfBoundsException.class;
    static final Class<?> ARGUMENT = IllegalArgumentException.class;
    static final Class<?> STATE = IllegalStateException.class;
    static final Class<?> UNSUPPORTED = UnsupportedOperationException.class;
    static final Class<?> ELEMENT = java.util.NoSuchElementException.class;

    /** Returns a bank with one account of each of these kinds. */
    static InkBank with(int... kinds) {
        return Banks.with(kinds);
    }

    /** Returns a bank whose account 0 has this balance, and the limit 500 if that is negative. */
    static InkBank holding(int kind, int balance) {
        InkBank bank = with(kind);
        if (balance < 0) {
            bank.setLimit(0, 500);
            bank.withdraw(0, -balance);
        }
        Banks.fill(bank, 0, balance);
        return bank;
    }

    /** Returns numbers that are no index of so many things: just outside, and far off. */
    static int[] outside(int count) {
        return new int[] {-1, count, count + 1, -count - 1, Integer.MIN_VALUE, Integer.MAX_VALUE};
    }

    /** Returns numbers outside a range: just outside, and far off. */
    static int[] outside(int least, int most) {
        return new int[] {least - 1, most + 1, least - 1000, most + 1000, Integer.MIN_VALUE, Integer.MAX_VALUE};
    }

    static void same(String what, Object got, Object due) {
        Check.same(what, got, due);
    }

    static void refused(String what, InkBank bank, Class<?> due, Runnable call) {
        Check.refused(what, bank, due, call);
    }
}
