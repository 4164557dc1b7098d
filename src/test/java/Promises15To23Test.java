/** Promises 15 to 23, sentence by sentence: the bank and its days. */
public final class Promises15To23Test extends Promises {
    public static void main(String[] args) throws IllegalAccessException {
        Check.runAll(Promises15To23Test.class);
    }

    /** Returns a bank on which a day brings a transfer of 100, a fee of 3, interest of 10 and 1, and a charge of 5. */
    private static InkBank busy() {
        InkBank bank = with(VAULT, QUILL, CURRENT);
        bank.setLimit(1, 50);
        bank.deposit(0, 250);
        bank.withdraw(1, 20);
        bank.deposit(2, 60);
        bank.seal(2, 0, 999, 0);
        bank.deposit(2, 43);
        bank.seal(2, 1, 100, 1);
        return bank;
    }

    // ---- Promise 15: bankBalance

    static void promise15_bankBalance() {
        InkBank bank = busy();
        same("at first", bank.bankBalance(), 0);
        bank.endDays(1);
        same("after 3 + 5 - 10 - 1", bank.bankBalance(), -3);
        bank.undo();
        same("undone", bank.bankBalance(), 0);
    }

    static void promise15_chargesAloneMakeItPositive() {
        InkBank bank = holding(QUILL, -7);
        same("deposits and withdrawals don't count", bank.bankBalance(), 0);
        bank.endDays(2);
        same("two charges", bank.bankBalance(), 10);
    }

    // ---- Promise 16: totalInk

    static void promise16_totalInk() {
        InkBank bank = with(QUILL, VAULT);
        same("at first", bank.totalInk(), 0L);
        bank.setLimit(0, 500);
        bank.withdraw(0, 400);
        same("negative", bank.totalInk(), -400L);
        bank.deposit(1, 300);
        same("of two accounts", bank.totalInk(), -100L);
        bank.endDays(1);
        same("with the bank's own", bank.totalInk(), -100L);
        same("which is not 0", bank.bankBalance(), 5 - 15);
    }

    static void promise16_ofEightAccounts() {
        InkBank bank = with(1, 1, 1, 1, 1, 1, 1, 1);
        for (int account = 0; account < 8; account++) {
            bank.deposit(account, 1 << account);
        }
        same("totalInk", bank.totalInk(), 255L);
    }

    // ---- Promise 17: totalInkByMovements

    static void promise17_depositsMinusWithdrawals() {
        InkBank bank = with(QUILL, QUILL);
        same("at first", bank.totalInkByMovements(), 0L);
        bank.deposit(0, 300);
        bank.deposit(1, 50);
        same("deposits", bank.totalInkByMovements(), 350L);
        bank.withdraw(0, 20);
        same("a withdrawal", bank.totalInkByMovements(), 330L);
        refused("a deposit", bank, ARGUMENT, () -> bank.deposit(0, 1000));
        refused("a withdrawal", bank, STATE, () -> bank.withdraw(1, 51));
        same("refused ones", bank.totalInkByMovements(), 330L);
    }

    static void promise17_negative() {
        same("totalInkByMovements", holding(QUILL, -400).totalInkByMovements(), -400L);
    }

    static void promise17_ofMoreThanTheJournalHolds() {
        InkBank bank = holding(QUILL, 9999);
        for (int i = 0; i < 9; i++) {
            bank.withdraw(0, 999);
        }
        same("totalInkByMovements", bank.totalInkByMovements(), 9999L - 9 * 999);
        same("totalInk", bank.totalInk(), 9999L - 9 * 999);
    }

    static void promise17_nothingElseCounts() {
        InkBank bank = busy();
        same("before", bank.totalInkByMovements(), 333L);
        bank.endDays(30);
        same("after thirty days", bank.totalInkByMovements(), 333L);
        same("totalInk", bank.totalInk(), 333L);
    }

    // ---- Promise 18: transferredInk

    static void promise18_onlyExecutedTransfers() {
        InkBank bank = busy();
        same("sealed ones don't count", bank.transferredInk(), 0L);
        bank.endDays(1);
        same("bounced ones don't count", bank.transferredInk(), 0L);
        bank.endDays(1);
        same("an executed one", bank.transferredInk(), 100L);
        bank.seal(0, 1, 11, 0);
        bank.seal(0, 1, 22, 0);
        bank.endDays(1);
        same("three of them", bank.transferredInk(), 133L);
        bank.withdraw(0, 1);
        bank.deposit(0, 1);
        same("others don't count", bank.transferredInk(), 133L);
    }

    // ---- Promise 19: interestPaid

    static void promise19_onlyInterest() {
        InkBank bank = busy();
        same("at first", bank.interestPaid(), 0L);
        bank.endDays(1);
        same("10 and 1", bank.interestPaid(), 11L);
        bank.undo();
        same("undone", bank.interestPaid(), 0L);
    }

    static void promise19_chargesAreNotTakenOff() {
        InkBank bank = holding(QUILL, -100);
        bank.endDays(3);
        same("interestPaid", bank.interestPaid(), 0L);
    }

    // ---- Promise 20: chargesPaid

    static void promise20_chargesAndFees() {
        InkBank bank = busy();
        same("at first", bank.chargesPaid(), 0L);
        bank.endDays(1);
        same("3 and 5", bank.chargesPaid(), 8L);
        bank.undo();
        same("undone", bank.chargesPaid(), 0L);
    }

    static void promise20_asReduced() {
        InkBank bank = with(QUILL, QUILL);
        bank.setLimit(0, 20);
        bank.withdraw(0, 16);
        bank.seal(0, 1, 999, 0);
        bank.endDays(1);
        same("3 and 1", bank.chargesPaid(), 4L);
        bank.seal(0, 1, 999, 0);
        bank.endDays(5);
        same("no more", bank.chargesPaid(), 4L);
    }

    // ---- Promise 21: day

    static void promise21_daysThatHaveEnded() {
        InkBank bank = new InkBank();
        same("at first", bank.day(), 0);
        bank.endDays(60);
        same("60", bank.day(), 60);
        bank.endDays(1);
        same("61", bank.day(), 61);
        refused("endDays", bank, ARGUMENT, () -> bank.endDays(0));
        same("61 still", bank.day(), 61);
        bank.undo();
        same("60 again", bank.day(), 60);
    }

    // ---- Promise 22: endDays

    static void promise22_returnsTheExecutedTransfers() {
        InkBank bank = with(QUILL, QUILL);
        bank.deposit(0, 10);
        same("none", bank.endDays(1), 0);
        bank.seal(0, 1, 1, 0);
        bank.seal(0, 1, 2, 0);
        bank.seal(0, 1, 3, 1);
        bank.seal(0, 1, 4, 2);
        bank.seal(0, 1, 999, 1);
        same("three of two days, without the bounced one", bank.endDays(2), 3);
        same("bounced", bank.bounceCount(), 1);
        same("left", bank.transferCount(), 1);
    }

    static void promise22_tenInOneDay() {
        InkBank bank = with(QUILL, QUILL);
        bank.deposit(0, 10);
        for (int i = 0; i < 10; i++) {
            bank.seal(0, 1, 1, 0);
        }
        same("ten", bank.endDays(1), 10);
        same("none is left", bank.transferCount(), 0);
        same("none more", bank.endDays(1), 0);
    }

    static void promise22_from1To60Days() {
        InkBank bank = holding(VAULT, 1000);
        same("1", bank.endDays(1), 0);
        same("day", bank.day(), 1);
        same("interest once", bank.interestPaid(), 50L);
        same("60", bank.endDays(60), 0);
        same("day", bank.day(), 61);
    }

    static void promise22_eachDayPaysInterest() {
        InkBank one = holding(VAULT, 990);
        InkBank many = holding(VAULT, 990);
        many.endDays(60);
        for (int i = 0; i < 60; i++) {
            one.endDays(1);
        }
        same("balance", many.balanceOf(0), one.balanceOf(0));
        same("day", many.day(), one.day());
    }

    static void promise22_aTransferDueOnTheLastOfTheDays() {
        InkBank bank = with(QUILL, QUILL);
        bank.deposit(0, 1);
        bank.seal(0, 1, 1, 60);
        same("sixty days", bank.endDays(60), 0);
        same("it is due today", bank.daysUntilDue(0), 0);
        same("one day more", bank.endDays(1), 1);
    }

    static void promise22_daysOutOfRange() {
        for (int days : outside(1, 60)) {
            refused("endDays(" + days + ")", () -> busy(), ARGUMENT, bank -> bank.endDays(days));
        }
    }

    // ---- Promise 23: balanceAfter

    static void promise23_fromThePresentDayOn() {
        InkBank bank = holding(VAULT, 1000);
        same("0 days", bank.balanceAfter(0, 0), 1000);
        same("1 day", bank.balanceAfter(0, 1), 1050);
        same("2 days", bank.balanceAfter(0, 2), 1100);
        same("3 days", bank.balanceAfter(0, 3), 1155);
    }

    static void promise23_sixtyDays() {
        InkBank bank = holding(SAVINGS, 1000);
        same("60 days", bank.balanceAfter(0, 60), 1000 + 60 * 30);
    }

    static void promise23_withTransfersAndFees() {
        InkBank bank = with(QUILL, QUILL);
        bank.deposit(0, 10);
        bank.seal(0, 1, 4, 0);
        bank.seal(0, 1, 7, 1);
        bank.seal(1, 0, 4, 2);
        same("sender on day 0", bank.balanceAfter(0, 0), 10);
        same("sender on day 1", bank.balanceAfter(0, 1), 6);
        same("sender on day 2", bank.balanceAfter(0, 2), 3);
        same("sender on day 3", bank.balanceAfter(0, 3), 7);
        same("receiver on day 1", bank.balanceAfter(1, 1), 4);
        same("receiver on day 3", bank.balanceAfter(1, 3), 0);
    }

    static void promise23_nothingChanges() {
        InkBank bank = busy();
        bank.writeStatement(0);
        Banks.type(bank, "wait 1");
        String before = Banks.all(bank);
        same("balanceAfter", bank.balanceAfter(0, 60) > 0, true);
        same("all", Banks.all(bank), before);
        same("the buffer", bank.execute(), 1);
        bank.balanceAfter(0, 60);
        same("the next id", bank.seal(0, 1, 1, 1), 2);
        bank.balanceAfter(0, 60);
        bank.undo();
        same("what undo does", bank.undo(), 6);
        same("what undo did", Banks.all(bank), before);
    }

    static void promise23_noSuchAccount() {
        refusedForNoAccount((bank, account) -> bank.balanceAfter(account, 1));
        refusedForNoAccount((bank, account) -> bank.balanceAfter(account, 0));
    }

    static void promise23_daysOutOfRange() {
        for (int days : outside(0, 60)) {
            refused("days " + days, () -> busy(), ARGUMENT, bank -> bank.balanceAfter(0, days));
        }
    }

    static void promise23_orderOfExceptions() {
        InkBank bank = busy();
        refused("account before days", bank, INDEX, () -> bank.balanceAfter(3, 61));
        refused("account before days", bank, INDEX, () -> bank.balanceAfter(-1, -1));
    }
}
