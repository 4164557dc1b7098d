/** Promises 15 to 23: the bank and the end of a day. */
public final class DaysTest {
    private static final Class<?> INDEX = IndexOutOfBoundsException.class;
    private static final Class<?> ARGUMENT = IllegalArgumentException.class;

    public static void main(String[] args) {
        sums();
        wrongDays();
        orderOfTheEndOfADay();
        executedInTheOrderOfIds();
        bouncing();
        reducedFees();
        sendingFromAVault();
        receivingAboveTheMost();
        looksAhead();
        Check.finish("DaysTest");
    }

    private static void sums() {
        InkBank bank = Banks.with(InkBank.CURRENT, InkBank.QUILL, InkBank.SAVINGS);
        bank.setLimit(1, 100);
        bank.deposit(0, 500);
        bank.withdraw(1, 20);
        Check.same("totalInk", bank.totalInk(), 480L);
        Check.same("totalInkByMovements", bank.totalInkByMovements(), 480L);
        bank.seal(0, 2, 100, 0);
        bank.seal(2, 0, 30, 1);
        Check.same("nothing is moved yet", bank.transferredInk(), 0L);
        Check.same("endDays", bank.endDays(2), 2);
        Check.same("transferredInk", bank.transferredInk(), 130L);
        // 400 and 100 pay 4 and 3; then 434 and 73 pay 4 and none.
        Check.same("interestPaid", bank.interestPaid(), 11L);
        Check.same("chargesPaid", bank.chargesPaid(), 10L);
        Check.same("bankBalance", bank.bankBalance(), -1);
        Check.same("day", bank.day(), 2);
        Check.same("totalInk as before", bank.totalInk(), 480L);
        Check.same("totalInkByMovements as before", bank.totalInkByMovements(), 480L);
        bank.deposit(0, 12);
        Check.same("totalInk more", bank.totalInk(), 492L);
        Check.same("totalInkByMovements more", bank.totalInkByMovements(), 492L);
    }

    private static void wrongDays() {
        InkBank bank = Banks.with(InkBank.CURRENT);
        for (int days : new int[] {0, -1, 61, Integer.MIN_VALUE, Integer.MAX_VALUE}) {
            Check.fails("endDays", ARGUMENT, () -> bank.endDays(days));
        }
        for (int days : new int[] {-1, 61, Integer.MIN_VALUE, Integer.MAX_VALUE}) {
            Check.fails("balanceAfter", ARGUMENT, () -> bank.balanceAfter(0, days));
            Check.fails("balanceAfter of none", INDEX, () -> bank.balanceAfter(1, days));
            Check.fails("balanceAfter of -1", INDEX, () -> bank.balanceAfter(-1, days));
        }
        Check.same("day", bank.day(), 0);
        Check.same("endDays(60)", bank.endDays(60), 0);
        Check.same("endDays(1)", bank.endDays(1), 0);
        Check.same("day", bank.day(), 61);
    }

    private static void orderOfTheEndOfADay() {
        InkBank bank = Banks.with(InkBank.SAVINGS, InkBank.CURRENT);
        bank.deposit(0, 100);
        bank.seal(0, 1, 100, 0);
        bank.endDays(1);
        Check.same("the sender gets none", bank.balanceOf(0), 0);
        Check.same("the receiver gets interest", bank.balanceOf(1), 101);
        Check.same("journal", Banks.journal(bank), "i1@1 t100@0 d100@0");
    }

    private static void executedInTheOrderOfIds() {
        InkBank bank = Banks.with(InkBank.SAVINGS, InkBank.SAVINGS, InkBank.SAVINGS);
        bank.deposit(0, 50);
        bank.seal(1, 2, 50, 1);
        bank.seal(0, 1, 50, 0);
        bank.seal(2, 0, 50, 1);
        Check.same("endDays", bank.endDays(2), 3);
        Check.same("round", bank.balanceOf(0), 50);
        bank.seal(1, 2, 50, 0);
        bank.seal(0, 1, 50, 0);
        Check.same("the first of these bounces", bank.endDays(1), 1);
        Check.same("bounceCount", bank.bounceCount(), 1);
        Check.same("none is left", bank.transferCount(), 0);
    }

    private static void bouncing() {
        InkBank bank = Banks.with(InkBank.CURRENT, InkBank.SAVINGS);
        bank.setLimit(0, 40);
        bank.deposit(0, 10);
        bank.seal(0, 1, 51, 0);
        Check.same("nothing executed", bank.endDays(1), 0);
        Check.same("fee", bank.balanceOf(0), 7);
        Check.same("fee to the bank", bank.bankBalance(), 3);
        Check.same("fee counts as paid", bank.chargesPaid(), 3L);
        Check.same("journal", Banks.journal(bank), "f3@0 d10@0");
        Check.same("transferredInk", bank.transferredInk(), 0L);
        bank.seal(0, 1, 47, 0);
        Check.same("just covered", bank.endDays(1), 1);
        Check.same("at the limit, no charge", bank.balanceOf(0), -40);
        Check.same("bounceCount", bank.bounceCount(), 1);
    }

    private static void reducedFees() {
        InkBank bank = Banks.with(InkBank.QUILL, InkBank.VAULT);
        bank.setLimit(0, 10);
        bank.withdraw(0, 8);
        bank.seal(0, 1, 3, 0);
        bank.seal(0, 1, 3, 0);
        bank.endDays(1);
        Check.same("reduced to the limit", bank.balanceOf(0), -10);
        Check.same("one fee of 2", Banks.journal(bank), "f2@0 w8@0");
        Check.same("both bounced", bank.bounceCount(), 2);
        Check.same("chargesPaid", bank.chargesPaid(), 2L);
    }

    private static void sendingFromAVault() {
        InkBank bank = Banks.with(InkBank.VAULT, InkBank.VAULT);
        bank.deposit(0, 500);
        bank.deposit(1, 503);
        bank.seal(0, 1, 100, 0);
        bank.seal(1, 0, 999, 0);
        bank.endDays(1);
        Check.same("sent: no interest", bank.balanceOf(0), 400);
        Check.same("a fee is not sent", bank.balanceOf(1), 600 + 30);
        Check.same("untouched on the new day", bank.wasTouched(0), false);
        bank.endDays(1);
        Check.same("interest again", bank.balanceOf(0), 420);
    }

    private static void receivingAboveTheMost() {
        InkBank bank = Banks.with(InkBank.QUILL, InkBank.CURRENT);
        Banks.fill(bank, 0, 999);
        Banks.fill(bank, 1, 9999);
        bank.seal(0, 1, 999, 0);
        Check.same("executed", bank.endDays(1), 1);
        Check.same("above 9999", bank.balanceOf(1), 9999 + 999 + 99);
        Check.fails("no deposit there", IllegalStateException.class, () -> bank.deposit(1, 1));
        Check.same("but a withdrawal", bank.withdraw(1, 999), 9999 + 99);
    }

    private static void looksAhead() {
        InkBank bank = Banks.with(InkBank.CURRENT, InkBank.VAULT, InkBank.QUILL);
        bank.setLimit(0, 300);
        bank.setLimit(2, 20);
        bank.deposit(1, 900);
        bank.withdraw(2, 1);
        bank.seal(0, 1, 200, 2);
        bank.seal(1, 2, 999, 5);
        bank.seal(2, 0, 30, 1);
        String before = Banks.state(bank);
        int[][] ahead = new int[3][61];
        for (int account = 0; account < 3; account++) {
            for (int days = 0; days <= 60; days++) {
                ahead[account][days] = bank.balanceAfter(account, days);
            }
        }
        Check.same("nothing changes", Banks.state(bank), before);
        for (int days = 0; days <= 60; days++) {
            for (int account = 0; account < 3; account++) {
                Check.same("balance on day " + days, bank.balanceOf(account), ahead[account][days]);
            }
            bank.endDays(1);
        }
    }
}
