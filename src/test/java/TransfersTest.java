import java.util.NoSuchElementException;

/** Promises 24 to 36: sealed transfers. */
public final class TransfersTest {
    private static final Class<?> INDEX = IndexOutOfBoundsException.class;
    private static final Class<?> ARGUMENT = IllegalArgumentException.class;
    private static final Class<?> STATE = IllegalStateException.class;
    private static final Class<?> ELEMENT = NoSuchElementException.class;

    public static void main(String[] args) {
        sealing();
        sealingWrongly();
        cancelling();
        asking();
        ordering();
        bouncingAhead();
        nets();
        leading();
        Check.finish("TransfersTest");
    }

    private static void sealing() {
        InkBank bank = Banks.with(InkBank.CURRENT, InkBank.VAULT);
        Check.same("first id", bank.seal(0, 1, 1, 0), 0);
        Check.same("second id", bank.seal(1, 0, 999, 60), 1);
        Check.same("transferCount", bank.transferCount(), 2);
        Check.same("nothing moves", bank.balanceOf(1), 0);
        Check.same("sealed", Banks.transfers(bank), "0:0>1 1 in 0, 1:1>0 999 in 60");
        bank.endDays(1);
        Check.same("bounced ones are gone", Banks.transfers(bank), "1:1>0 999 in 59");
        Check.same("ids go on", bank.seal(0, 1, 5, 3), 2);
        Check.same("due days count from today", Banks.transfers(bank), "2:0>1 5 in 3, 1:1>0 999 in 59");
    }

    private static void sealingWrongly() {
        InkBank bank = Banks.with(InkBank.CURRENT, InkBank.VAULT);
        for (int wrong : new int[] {2, -1, Integer.MIN_VALUE, Integer.MAX_VALUE}) {
            Check.fails("wrong sender", INDEX, () -> bank.seal(wrong, 0, 0, 61));
            Check.fails("wrong receiver", INDEX, () -> bank.seal(0, wrong, 0, 61));
            Check.fails("both wrong", INDEX, () -> bank.seal(wrong, wrong, 1, 1));
        }
        Check.fails("same accounts", ARGUMENT, () -> bank.seal(1, 1, 1, 1));
        for (int amount : new int[] {0, 1000, -1, Integer.MIN_VALUE, Integer.MAX_VALUE}) {
            Check.fails("wrong amount", ARGUMENT, () -> bank.seal(0, 1, amount, 1));
        }
        for (int days : new int[] {-1, 61, Integer.MIN_VALUE, Integer.MAX_VALUE}) {
            Check.fails("wrong days", ARGUMENT, () -> bank.seal(0, 1, 1, days));
        }
        for (int i = 0; i < 10; i++) {
            Check.same("id after failures", bank.seal(0, 1, 1, 1), i);
        }
        Check.fails("eleventh", STATE, () -> bank.seal(0, 1, 1, 1));
        Check.fails("eleventh to itself", ARGUMENT, () -> bank.seal(0, 0, 1, 1));
        Check.fails("eleventh of 0", ARGUMENT, () -> bank.seal(0, 1, 0, 1));
        Check.same("transferCount", bank.transferCount(), 10);
        bank.cancel(4);
        Check.same("room again", bank.seal(0, 1, 1, 1), 10);
    }

    private static void cancelling() {
        InkBank bank = Banks.with(InkBank.CURRENT, InkBank.VAULT);
        bank.deposit(0, 100);
        bank.seal(0, 1, 10, 0);
        bank.seal(0, 1, 20, 0);
        bank.seal(0, 1, 30, 0);
        Check.same("cancel", bank.cancel(1), 20);
        Check.fails("cancel again", ELEMENT, () -> bank.cancel(1));
        Check.fails("cancel unknown", ELEMENT, () -> bank.cancel(3));
        Check.fails("cancel -1", ELEMENT, () -> bank.cancel(-1));
        Check.same("others stay", Banks.transfers(bank), "0:0>1 10 in 0, 2:0>1 30 in 0");
        Check.same("executed", bank.endDays(1), 2);
        Check.same("received", bank.balanceOf(1), 40);
        Check.fails("cancel executed", ELEMENT, () -> bank.cancel(0));
    }

    private static void asking() {
        InkBank bank = Banks.with(InkBank.CURRENT, InkBank.VAULT, InkBank.QUILL);
        bank.seal(2, 1, 17, 5);
        bank.seal(0, 2, 18, 0);
        Check.same("senderOf", bank.senderOf(0), 2);
        Check.same("receiverOf", bank.receiverOf(0), 1);
        Check.same("amountOf", bank.amountOf(0), 17);
        Check.same("daysUntilDue", bank.daysUntilDue(0), 5);
        Check.same("due today", bank.daysUntilDue(1), 0);
        bank.endDays(5);
        Check.same("due now", bank.daysUntilDue(0), 0);
        bank.endDays(1);
        for (int gone : new int[] {0, 1, 2, -1, Integer.MIN_VALUE, Integer.MAX_VALUE}) {
            Check.fails("senderOf", ELEMENT, () -> bank.senderOf(gone));
            Check.fails("receiverOf", ELEMENT, () -> bank.receiverOf(gone));
            Check.fails("amountOf", ELEMENT, () -> bank.amountOf(gone));
            Check.fails("daysUntilDue", ELEMENT, () -> bank.daysUntilDue(gone));
            Check.fails("wouldBounce", ELEMENT, () -> bank.wouldBounce(gone));
        }
    }

    private static void ordering() {
        InkBank bank = Banks.with(InkBank.CURRENT, InkBank.VAULT);
        int[] days = {3, 1, 3, 0, 1};
        for (int due : days) {
            bank.seal(0, 1, 1, due);
        }
        int[] order = {3, 1, 4, 0, 2};
        for (int position = 0; position < 5; position++) {
            Check.same("transferAt " + position, bank.transferAt(position), order[position]);
        }
        for (int wrong : new int[] {5, -1, Integer.MIN_VALUE, Integer.MAX_VALUE}) {
            Check.fails("transferAt", INDEX, () -> bank.transferAt(wrong));
        }
    }

    private static void bouncingAhead() {
        InkBank bank = Banks.with(InkBank.SAVINGS, InkBank.SAVINGS, InkBank.CURRENT);
        bank.deposit(0, 100);
        bank.deposit(2, 10);
        bank.seal(0, 1, 104, 1);
        bank.seal(0, 1, 103, 1);
        bank.seal(1, 0, 103, 1);
        bank.seal(1, 2, 1, 1);
        bank.seal(2, 1, 10, 0);
        bank.seal(1, 2, 7, 0);
        bank.seal(2, 1, 8, 0);
        String before = Banks.state(bank);
        // On the first day account 1 comes to 3 and account 0, by interest, to 103. On the second
        // day the fee of transfer 0 leaves account 0 too little for transfer 1, without which
        // account 1 can't send transfer 2, whose fee leaves it nothing for transfer 3.
        boolean[] due = {true, true, true, true, false, false, true};
        for (int id = 0; id < due.length; id++) {
            Check.same("wouldBounce " + id, bank.wouldBounce(id), due[id]);
        }
        Check.same("nothing changes", Banks.state(bank), before);
        bank.cancel(0);
        Check.same("covered without the fee", bank.wouldBounce(1), false);
        Check.same("and so is the way back", bank.wouldBounce(2), false);
        Check.same("and what is left", bank.wouldBounce(3), false);
        Check.same("executed", bank.endDays(2), 5);
        Check.same("bounceCount", bank.bounceCount(), 1);
        // On day 2 account 0 has 106, and 3 more each day.
        int early = bank.seal(0, 1, 115, 2);
        int late = bank.seal(0, 1, 115, 3);
        Check.same("a day too early", bank.wouldBounce(early), true);
        bank.cancel(early);
        Check.same("just covered", bank.wouldBounce(late), false);
    }

    private static void net(InkBank bank, int account, int due) {
        Check.same("netOf " + account, bank.netOf(account), due);
        Check.same("netByTable " + account, bank.netByTable(account), due);
    }

    private static void nets() {
        InkBank bank = Banks.with(InkBank.CURRENT, InkBank.VAULT, InkBank.QUILL);
        bank.seal(0, 1, 100, 5);
        bank.seal(0, 1, 10, 0);
        bank.seal(1, 2, 7, 3);
        bank.seal(1, 0, 2, 3);
        for (int again = 0; again < 2; again++) {
            net(bank, 0, -108);
            net(bank, 1, 101);
            net(bank, 2, 7);
        }
        bank.cancel(0);
        net(bank, 0, -8);
        net(bank, 1, 1);
        bank.endDays(1);
        net(bank, 0, 2);
        for (int wrong : new int[] {3, -1, 8, Integer.MIN_VALUE, Integer.MAX_VALUE}) {
            Check.fails("netOf", INDEX, () -> bank.netOf(wrong));
            Check.fails("netByTable", INDEX, () -> bank.netByTable(wrong));
        }
    }

    private static void leading() {
        InkBank bank = Banks.with(0, 0, 0, 0, 0, 0, 0, 0);
        // Each step is sealed ahead of the one that leads to it.
        int back = bank.seal(7, 0, 1, 1);
        for (int from = 6; from >= 0; from--) {
            bank.seal(from, from + 1, 1, 1);
        }
        Check.same("a ring leads back", bank.leadsTo(0, 0), true);
        Check.same("a ring leads round", bank.leadsTo(5, 4), true);
        bank.cancel(back);
        for (int from = 0; from < 8; from++) {
            for (int to = 0; to < 8; to++) {
                Check.same("leadsTo " + from + " " + to, bank.leadsTo(from, to), from < to);
            }
        }
        bank.seal(7, 6, 1, 1);
        bank.seal(7, 5, 1, 1);
        bank.seal(3, 2, 1, 1);
        Check.same("ten transfers", bank.transferCount(), 10);
        Check.same("the last of ten leads back", bank.leadsTo(3, 3), true);
        Check.same("none of ten leads to the first", bank.leadsTo(7, 0), false);
        for (int wrong : new int[] {8, -1, Integer.MIN_VALUE, Integer.MAX_VALUE}) {
            Check.fails("leadsTo", INDEX, () -> bank.leadsTo(wrong, 0));
            Check.fails("leadsTo", INDEX, () -> bank.leadsTo(0, wrong));
        }
    }
}
