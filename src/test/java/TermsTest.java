/** The chapter 'Terms', sentence by sentence: accounts, kinds, the bank, transfers, the end of a day, the journal. */
public final class TermsTest extends Promises {
    public static void main(String[] args) throws IllegalAccessException {
        Check.runAll(TermsTest.class);
    }

    /** Checks the interest of an account with this balance, before and at the end of the day. */
    private static void pays(int kind, int balance, int due) {
        InkBank bank = holding(kind, balance);
        same("interestOf with " + balance, bank.interestOf(0), due);
        bank.endDays(1);
        same("the next day's balance with " + balance, bank.balanceOf(0), balance + due);
        same("the bank's balance with " + balance, bank.bankBalance(), -due);
    }

    // ---- "It is not thread-safe. All integer divisions are rounded towards zero."

    static void terms_divisionsRoundTowardsZero() {
        pays(CURRENT, 199, 1);
        pays(SAVINGS, 199, 3);
        pays(VAULT, 199, 5);
        pays(CURRENT, -99, -2);
        pays(CURRENT, -149, -4);
    }

    // ---- Accounts

    static void termsAccounts_eightAtMost() {
        InkBank bank = with(CURRENT, SAVINGS, QUILL, VAULT, CURRENT, SAVINGS, QUILL);
        same("the eighth", bank.open(VAULT), 7);
        refused("the ninth", bank, STATE, () -> bank.open(CURRENT));
        same("accountCount", bank.accountCount(), 8);
    }

    static void termsAccounts_numberedFrom0AsOpened() {
        InkBank bank = new InkBank();
        int[] kinds = {VAULT, CURRENT, QUILL, SAVINGS, CURRENT, VAULT, SAVINGS, QUILL};
        for (int account = 0; account < 8; account++) {
            same("number", bank.open(kinds[account]), account);
        }
        for (int account = 0; account < 8; account++) {
            same("kind of " + account, bank.kindOf(account), kinds[account]);
        }
    }

    static void termsAccounts_balanceAndLimitAre0AtFirst() {
        InkBank bank = with(QUILL);
        same("the first", Banks.statement(bank, 0), "Q0:0/0");
        bank.save();
        bank.open(CURRENT);
        bank.setLimit(1, 70);
        bank.withdraw(1, 7);
        bank.restore();
        same("number of the one in its place", bank.open(QUILL), 1);
        same("balance", bank.balanceOf(1), 0);
        same("limit", bank.limitOf(1), 0);
        same("touched", bank.wasTouched(1), false);
    }

    static void termsAccounts_limitFrom0To500() {
        InkBank bank = with(CURRENT);
        same("500", bank.setLimit(0, 500), 0);
        refused("501", bank, ARGUMENT, () -> bank.setLimit(0, 501));
        same("0", bank.setLimit(0, 0), 500);
        refused("-1", bank, ARGUMENT, () -> bank.setLimit(0, -1));
    }

    static void termsAccounts_balanceNeverBelowTheLimit() {
        InkBank bank = with(CURRENT, SAVINGS);
        bank.setLimit(0, 50);
        refused("withdrawal", bank, STATE, () -> bank.withdraw(0, 51));
        bank.withdraw(0, 49);
        refused("limit", bank, STATE, () -> bank.setLimit(0, 48));
        bank.seal(0, 1, 2, 0);
        bank.endDays(1);
        same("after a transfer, its fee and a charge", bank.balanceOf(0), -50);
        bank.endDays(60);
        same("after charges", bank.balanceOf(0), -50);
    }

    // ---- Kinds

    static void termsKinds_currentPays1ForEach100() {
        pays(CURRENT, 0, 0);
        pays(CURRENT, 1, 0);
        pays(CURRENT, 99, 0);
        pays(CURRENT, 100, 1);
        pays(CURRENT, 199, 1);
        pays(CURRENT, 200, 2);
        pays(CURRENT, 9999, 99);
    }

    static void termsKinds_currentIsCharged2ForEach50() {
        pays(CURRENT, -50, -2);
        pays(CURRENT, -51, -2);
        pays(CURRENT, -99, -2);
        pays(CURRENT, -100, -4);
        pays(CURRENT, -101, -4);
        pays(CURRENT, -450, -18);
    }

    static void termsKinds_currentIsCharged1AtLeast() {
        pays(CURRENT, -1, -1);
        pays(CURRENT, -49, -1);
        pays(CURRENT, -50, -2);
    }

    static void termsKinds_savingsPay3ForEach100() {
        pays(SAVINGS, 0, 0);
        pays(SAVINGS, 99, 0);
        pays(SAVINGS, 100, 3);
        pays(SAVINGS, 199, 3);
        pays(SAVINGS, 200, 6);
        pays(SAVINGS, 999, 27);
    }

    static void termsKinds_savingsPay30AtMost() {
        pays(SAVINGS, 1000, 30);
        pays(SAVINGS, 1099, 30);
        pays(SAVINGS, 1100, 30);
        pays(SAVINGS, 9999, 30);
    }

    static void termsKinds_savingsHaveTheLimit0() {
        InkBank bank = holding(SAVINGS, 5);
        same("limitOf", bank.limitOf(0), 0);
        refused("a limit", bank, UNSUPPORTED, () -> bank.setLimit(0, 1));
        refused("the same limit", bank, UNSUPPORTED, () -> bank.setLimit(0, 0));
        refused("an overdraft", bank, STATE, () -> bank.withdraw(0, 6));
        same("all of it", bank.withdraw(0, 5), 0);
    }

    static void termsKinds_quillPaysNothing() {
        pays(QUILL, 0, 0);
        pays(QUILL, 1, 0);
        pays(QUILL, 100, 0);
        pays(QUILL, 9999, 0);
    }

    static void termsKinds_quillIsCharged5() {
        pays(QUILL, -1, -5);
        pays(QUILL, -100, -5);
        pays(QUILL, -494, -5);
        pays(QUILL, -495, -5);
    }

    static void termsKinds_vaultPays5ForEach100() {
        pays(VAULT, 0, 0);
        pays(VAULT, 99, 0);
        pays(VAULT, 100, 5);
        pays(VAULT, 199, 5);
        pays(VAULT, 200, 10);
        pays(VAULT, 9999, 495);
    }

    static void termsKinds_vaultPaysNothingAfterAWithdrawal() {
        InkBank bank = holding(VAULT, 301);
        bank.withdraw(0, 1);
        same("interestOf", bank.interestOf(0), 0);
        bank.deposit(0, 1);
        same("interestOf with the drop back", bank.interestOf(0), 0);
        bank.endDays(1);
        same("that day", bank.balanceOf(0), 301);
        same("interestOf on the next day", bank.interestOf(0), 15);
        bank.endDays(1);
        same("the next day", bank.balanceOf(0), 316);
    }

    static void termsKinds_vaultPaysNothingAfterSending() {
        InkBank bank = with(VAULT, QUILL);
        bank.deposit(0, 301);
        bank.seal(0, 1, 1, 0);
        same("interestOf with a transfer sealed", bank.interestOf(0), 15);
        bank.endDays(1);
        same("that day", bank.balanceOf(0), 300);
        bank.endDays(1);
        same("the next day", bank.balanceOf(0), 315);
    }

    static void termsKinds_vaultPaysThoughItReceived() {
        InkBank bank = with(VAULT, QUILL);
        bank.deposit(0, 60);
        bank.deposit(1, 40);
        bank.seal(1, 0, 40, 0);
        bank.endDays(1);
        same("that day", bank.balanceOf(0), 105);
    }

    static void termsKinds_vaultHasTheLimit0() {
        InkBank bank = holding(VAULT, 5);
        same("limitOf", bank.limitOf(0), 0);
        refused("a limit", bank, UNSUPPORTED, () -> bank.setLimit(0, 1));
        refused("the same limit", bank, UNSUPPORTED, () -> bank.setLimit(0, 0));
        refused("an overdraft", bank, STATE, () -> bank.withdraw(0, 6));
        same("all of it", bank.withdraw(0, 5), 0);
    }

    /** Checks the interest of an account that has come above 9999 drops. */
    private static void paysAbove9999(int kind, int received, int due) {
        InkBank bank = with(QUILL, kind);
        bank.deposit(0, received);
        Banks.fill(bank, 1, 9999);
        bank.seal(0, 1, received, 0);
        same("interestOf with 9999", bank.interestOf(1), due);
        bank.endDays(1);
        same("with " + received + " more", bank.balanceOf(1), 9999 + received + due);
        same("interestOf above", bank.interestOf(1), due);
    }

    static void termsInterest_from9999AtMost() {
        paysAbove9999(CURRENT, 1, 99);
        paysAbove9999(CURRENT, 999, 99);
        paysAbove9999(SAVINGS, 999, 30);
        paysAbove9999(QUILL, 999, 0);
        paysAbove9999(VAULT, 1, 495);
        paysAbove9999(VAULT, 999, 495);
    }

    static void termsInterest_mayBringABalanceAbove9999() {
        InkBank bank = holding(VAULT, 9999);
        bank.endDays(3);
        same("three days' interest", bank.balanceOf(0), 9999 + 3 * 495);
    }

    // ---- The bank

    static void termsBank_paysInterestAndTakesCharges() {
        InkBank bank = with(SAVINGS, QUILL);
        same("at first", bank.bankBalance(), 0);
        bank.setLimit(1, 100);
        bank.withdraw(1, 1);
        bank.endDays(1);
        same("a charge", bank.bankBalance(), 5);
        bank.deposit(0, 900);
        bank.endDays(1);
        same("a charge and interest, negative", bank.bankBalance(), 10 - 27);
    }

    static void termsBank_takesFees() {
        InkBank bank = holding(QUILL, 10);
        bank.open(VAULT);
        bank.seal(0, 1, 11, 0);
        bank.endDays(1);
        same("bankBalance", bank.bankBalance(), 3);
    }

    static void termsBank_theSumOnlyChangesByDepositsAndWithdrawals() {
        InkBank bank = with(VAULT, QUILL, CURRENT);
        bank.setLimit(1, 50);
        same("opened and limited", bank.totalInk(), 0L);
        bank.deposit(0, 400);
        same("deposit", bank.totalInk(), 400L);
        bank.withdraw(1, 30);
        same("withdrawal", bank.totalInk(), 370L);
        bank.seal(0, 2, 150, 0);
        bank.seal(1, 2, 21, 0);
        bank.cancel(bank.seal(0, 1, 9, 3));
        same("sealed and cancelled", bank.totalInk(), 370L);
        bank.endDays(1);
        same("transfer, fee, interest and charge", bank.totalInk(), 370L);
        bank.endDays(60);
        same("sixty days more", bank.totalInk(), 370L);
        same("a bounce was among them", bank.bounceCount(), 1);
    }

    static void termsBank_aChargeIsReducedToTheLimit() {
        pays(CURRENT, -482, -18);
        pays(CURRENT, -483, -17);
        pays(CURRENT, -499, -1);
        pays(CURRENT, -500, 0);
        pays(QUILL, -495, -5);
        pays(QUILL, -496, -4);
        pays(QUILL, -499, -1);
        pays(QUILL, -500, 0);
        InkBank bank = with(CURRENT);
        bank.setLimit(0, 60);
        bank.withdraw(0, 59);
        bank.endDays(1);
        same("just at the limit", bank.balanceOf(0), -60);
        same("chargesPaid", bank.chargesPaid(), 1L);
        bank.endDays(1);
        same("no further", bank.balanceOf(0), -60);
        same("bankBalance", bank.bankBalance(), 1);
    }

    // ---- Transfers

    private static InkBank withTen() {
        InkBank bank = with(QUILL, QUILL);
        bank.deposit(0, 5);
        for (int id = 0; id < 10; id++) {
            same("seal", bank.seal(0, 1, id < 2 ? 4 : 1, id < 2 ? 0 : 5), id);
        }
        return bank;
    }

    static void termsTransfers_tenAtMost() {
        InkBank bank = withTen();
        refused("the eleventh", bank, STATE, () -> bank.seal(0, 1, 1, 5));
        same("transferCount", bank.transferCount(), 10);
    }

    static void termsTransfers_tenAgainInPlaceOfACancelledOne() {
        InkBank bank = withTen();
        bank.cancel(9);
        same("no id is left out", bank.seal(0, 1, 1, 5), 10);
        refused("the eleventh", bank, STATE, () -> bank.seal(0, 1, 1, 5));
    }

    static void termsTransfers_tenAgainInPlaceOfExecutedAndBouncedOnes() {
        InkBank bank = withTen();
        same("one is executed and one bounces", bank.endDays(1), 1);
        same("bounceCount", bank.bounceCount(), 1);
        same("in place of the executed one", bank.seal(0, 1, 1, 4), 10);
        same("in place of the bounced one", bank.seal(0, 1, 1, 4), 11);
        refused("the eleventh", bank, STATE, () -> bank.seal(0, 1, 1, 4));
    }

    static void termsTransfers_idsFrom0EachThePreviousPlus1() {
        InkBank bank = with(QUILL, QUILL);
        same("the first", bank.seal(0, 1, 1, 0), 0);
        same("the second", bank.seal(0, 1, 1, 3), 1);
        bank.cancel(1);
        same("after a cancelled one", bank.seal(0, 1, 1, 3), 2);
        bank.endDays(1);
        same("after a bounced one", bank.seal(0, 1, 1, 3), 3);
        refused("to itself", bank, ARGUMENT, () -> bank.seal(0, 0, 1, 3));
        same("after a refused one", bank.seal(0, 1, 1, 3), 4);
        bank.undo();
        same("after one that was undone", bank.seal(0, 1, 1, 3), 4);
    }

    static void termsTransfers_sealingMovesNothing() {
        InkBank bank = with(CURRENT, CURRENT);
        bank.deposit(0, 10);
        bank.seal(0, 1, 10, 0);
        same("sender", Banks.statement(bank, 0), "C0:10/0");
        same("receiver", Banks.statement(bank, 1), "C1:0/0");
        same("availableIn", bank.availableIn(0), 10);
        same("transferredInk", bank.transferredInk(), 0L);
        same("journal", Banks.journal(bank), "d10@0");
    }

    static void termsTransfers_aCancelledOneIsNotExecuted() {
        InkBank bank = with(QUILL, QUILL);
        bank.deposit(0, 10);
        bank.seal(0, 1, 10, 0);
        bank.seal(0, 1, 99, 0);
        bank.cancel(0);
        bank.cancel(1);
        same("executed", bank.endDays(1), 0);
        same("bounced", bank.bounceCount(), 0);
        same("sender", bank.balanceOf(0), 10);
        same("receiver", bank.balanceOf(1), 0);
    }

    // ---- The end of a day

    static void termsDay_countedFrom0() {
        InkBank bank = new InkBank();
        same("at first", bank.day(), 0);
        bank.endDays(1);
        same("then", bank.day(), 1);
    }

    static void termsDay_onlyWhatIsDueIsExecuted() {
        InkBank bank = with(QUILL, QUILL);
        bank.deposit(0, 99);
        bank.seal(0, 1, 1, 0);
        bank.seal(0, 1, 2, 1);
        bank.seal(0, 1, 4, 2);
        same("today", bank.endDays(1), 1);
        same("received today", bank.balanceOf(1), 1);
        same("the others are left", Banks.transfers(bank), "1:0>1 2 in 0, 2:0>1 4 in 1");
        same("tomorrow", bank.endDays(1), 1);
        same("received tomorrow", bank.balanceOf(1), 3);
        same("the day after", bank.endDays(1), 1);
        same("received in all", bank.balanceOf(1), 7);
    }

    static void termsDay_executesInTheOrderOfIds() {
        InkBank bank = with(QUILL, QUILL, QUILL);
        bank.deposit(0, 10);
        bank.seal(1, 2, 10, 0);
        bank.seal(0, 1, 10, 0);
        same("what is there too late bounces", bank.endDays(1), 1);
        same("received", bank.balanceOf(1), 10);
        bank.seal(1, 2, 10, 0);
        bank.seal(2, 0, 10, 0);
        same("what is there in time is sent on", bank.endDays(1), 2);
        same("sent on", bank.balanceOf(0), 10);
    }

    static void termsDay_theOrderOfIdsIsKeptWhenOneIsCancelled() {
        InkBank bank = with(QUILL, QUILL, QUILL);
        bank.deposit(0, 10);
        bank.seal(2, 1, 1, 5);
        bank.seal(0, 1, 10, 0);
        bank.cancel(0);
        bank.seal(0, 2, 10, 0);
        same("executed", bank.endDays(1), 1);
        same("the older one", bank.balanceOf(1), 10);
    }

    static void termsDay_theOlderOneGoesFirstThoughItWasSealedForLater() {
        InkBank bank = with(QUILL, QUILL, QUILL);
        bank.deposit(0, 10);
        bank.seal(0, 1, 10, 1);
        bank.endDays(1);
        bank.seal(0, 2, 10, 0);
        same("executed", bank.endDays(1), 1);
        same("the older one", bank.balanceOf(1), 10);
    }

    /** Checks what comes of a transfer from a quill account that has 10 drops and this limit. */
    private static void sends(int limit, int amount, boolean executed) {
        InkBank bank = with(QUILL, QUILL);
        bank.deposit(0, 10);
        bank.setLimit(0, limit);
        bank.seal(0, 1, amount, 0);
        same("endDays with " + amount, bank.endDays(1), executed ? 1 : 0);
        same("bounceCount with " + amount, bank.bounceCount(), executed ? 0 : 1);
        same("received with " + amount, bank.balanceOf(1), executed ? amount : 0);
    }

    static void termsDay_executedIfTheLimitAllowsIt() {
        sends(0, 9, true);
        sends(0, 10, true);
        sends(0, 11, false);
        sends(40, 49, true);
        sends(40, 50, true);
        sends(40, 51, false);
        sends(500, 510, true);
        sends(500, 511, false);
    }

    static void termsDay_theWholeAmountMovesToTheReceiver() {
        InkBank bank = with(QUILL, SAVINGS, QUILL);
        Banks.fill(bank, 0, 999);
        bank.seal(0, 2, 999, 0);
        bank.endDays(1);
        same("sender", bank.balanceOf(0), 0);
        same("receiver", bank.balanceOf(2), 999);
        same("another account", bank.balanceOf(1), 0);
        same("bank", bank.bankBalance(), 0);
    }

    static void termsDay_theSenderOfABouncedOnePays3() {
        InkBank bank = with(QUILL, QUILL);
        bank.deposit(0, 20);
        bank.deposit(1, 20);
        bank.seal(0, 1, 21, 0);
        bank.endDays(1);
        same("sender", bank.balanceOf(0), 17);
        same("receiver", bank.balanceOf(1), 20);
        same("bank", bank.bankBalance(), 3);
    }

    /** Checks the movements of a day on which a transfer bounces. */
    private static void bounces(int limit, int balance, String journal) {
        InkBank bank = with(QUILL, QUILL);
        bank.setLimit(0, limit);
        Banks.fill(bank, 0, balance);
        if (balance < 0) {
            bank.withdraw(0, -balance);
        }
        bank.seal(0, 1, 999, 0);
        bank.endDays(1);
        same("journal with " + balance, Banks.journal(bank), journal);
        same("bounceCount with " + balance, bank.bounceCount(), 1);
    }

    static void termsDay_aFeeIsReducedLikeACharge() {
        bounces(0, 0, "");
        bounces(0, 1, "f1@0 d1@0");
        bounces(0, 2, "f2@0 d2@0");
        bounces(0, 3, "f3@0 d3@0");
        bounces(0, 4, "f3@0 d4@0");
        bounces(100, -100, "w100@0");
        bounces(100, -99, "f1@0 w99@0");
        bounces(100, -98, "f2@0 w98@0");
        bounces(100, -97, "f3@0 w97@0");
        bounces(100, -96, "c1@0 f3@0 w96@0");
    }

    static void termsDay_executedAndBouncedOnesAreGone() {
        InkBank bank = with(QUILL, QUILL);
        bank.deposit(0, 5);
        bank.seal(0, 1, 5, 0);
        bank.seal(0, 1, 5, 0);
        bank.seal(1, 0, 5, 1);
        bank.endDays(1);
        same("transfers", Banks.transfers(bank), "2:1>0 5 in 0");
        same("bounced", bank.bounceCount(), 1);
        refused("the executed one", bank, ELEMENT, () -> bank.amountOf(0));
        refused("the bounced one", bank, ELEMENT, () -> bank.amountOf(1));
    }

    static void termsDay_interestComesAfterTheTransfers() {
        InkBank bank = with(SAVINGS, CURRENT);
        bank.deposit(0, 100);
        bank.seal(0, 1, 100, 0);
        bank.endDays(1);
        same("none for the sender", bank.balanceOf(0), 0);
        same("for the receiver", bank.balanceOf(1), 101);
    }

    static void termsDay_aChargeComesAfterTheFee() {
        InkBank bank = with(CURRENT, QUILL);
        bank.setLimit(0, 99);
        bank.withdraw(0, 48);
        bank.seal(0, 1, 52, 0);
        bank.endDays(1);
        same("3, and 2 for the 51 below 0", bank.balanceOf(0), -53);
        same("journal", Banks.journal(bank), "c2@0 f3@0 w48@0");
    }

    static void termsDay_interestInTheOrderOfAccounts() {
        InkBank bank = with(SAVINGS, CURRENT, VAULT);
        bank.setLimit(1, 10);
        bank.deposit(2, 100);
        bank.withdraw(1, 1);
        bank.deposit(0, 100);
        bank.endDays(1);
        same("journal, the latest first", Banks.journal(bank), "i5@2 c1@1 i3@0 d100@0 w1@1 d100@2");
    }

    static void termsDay_theDayIncreasesBy1() {
        InkBank bank = with(QUILL, QUILL);
        bank.deposit(0, 9);
        bank.seal(0, 1, 1, 1);
        for (int day = 1; day < 4; day++) {
            same("executed", bank.endDays(1), day == 2 ? 1 : 0);
            same("day", bank.day(), day);
        }
    }

    // ---- Further rules

    static void termsFurther_anExecutedOneCountsAsSentThatDay() {
        InkBank bank = with(VAULT, QUILL);
        bank.deposit(0, 500);
        bank.seal(0, 1, 100, 0);
        bank.endDays(1);
        same("no interest that day", bank.balanceOf(0), 400);
        same("not touched on the next", bank.wasTouched(0), false);
        same("interest on the next", bank.interestOf(0), 20);
    }

    static void termsFurther_aFeeDoesNotCountAsSent() {
        InkBank bank = with(VAULT, QUILL);
        bank.deposit(0, 503);
        bank.seal(0, 1, 504, 0);
        bank.endDays(1);
        same("interest of 500 that day", bank.balanceOf(0), 525);
    }

    static void termsFurther_theReceiverMayComeAbove9999() {
        InkBank bank = with(QUILL, QUILL);
        Banks.fill(bank, 0, 999);
        Banks.fill(bank, 1, 9999);
        bank.seal(0, 1, 999, 0);
        same("executed", bank.endDays(1), 1);
        same("received", bank.balanceOf(1), 10998);
    }

    // ---- Journal

    static void termsJournal_theLatest10() {
        InkBank bank = with(QUILL);
        for (int amount = 1; amount <= 10; amount++) {
            bank.deposit(0, amount);
            same("length", bank.journalLength(), amount);
        }
        same("the first is there", bank.movementAmount(9), 1);
        bank.deposit(0, 11);
        same("no longer", bank.journalLength(), 10);
        same("journal", Banks.journal(bank), "d11@0 d10@0 d9@0 d8@0 d7@0 d6@0 d5@0 d4@0 d3@0 d2@0");
    }

    static void termsJournal_sixKindsOfMovements() {
        InkBank bank = with(VAULT, CURRENT, QUILL);
        bank.setLimit(1, 99);
        bank.deposit(0, 300);
        bank.withdraw(1, 60);
        bank.seal(0, 2, 100, 0);
        bank.seal(1, 0, 77, 0);
        bank.endDays(2);
        // The fee of 3 brings account 1 to -63, so that its charge is 2.
        same("journal", Banks.journal(bank), "c2@1 i10@0 c2@1 f3@1 t100@0 w60@1 d300@0");
    }

    static void termsJournal_noMovementOfLessThan1Drop() {
        InkBank bank = with(CURRENT, CURRENT, SAVINGS, VAULT, QUILL);
        bank.setLimit(0, 5);
        bank.withdraw(0, 5);
        bank.deposit(2, 99);
        bank.seal(0, 1, 1, 0);
        bank.endDays(5);
        same("no interest, no charge, no fee", Banks.journal(bank), "d99@2 w5@0");
        same("though it bounced", bank.bounceCount(), 1);
    }

    static void termsJournal_movementsOf1Drop() {
        InkBank bank = with(CURRENT, QUILL, CURRENT, QUILL);
        bank.setLimit(0, 2);
        bank.deposit(1, 1);
        bank.withdraw(0, 1);
        bank.deposit(2, 100);
        bank.seal(1, 3, 1, 0);
        bank.deposit(3, 1);
        bank.seal(3, 0, 3, 0);
        bank.endDays(1);
        same("transfer, fee, charge and interest", Banks.journal(bank), "i1@2 c1@0 f2@3 t1@1 d1@3 d100@2 w1@0 d1@1");
    }

    static void termsJournal_theAmountThatWasReduced() {
        InkBank bank = with(QUILL, QUILL);
        bank.setLimit(0, 20);
        bank.withdraw(0, 16);
        bank.seal(0, 1, 5, 0);
        bank.endDays(1);
        same("journal", Banks.journal(bank), "c1@0 f3@0 w16@0");
    }

    static void termsJournal_theAccountOfATransferIsTheSender() {
        InkBank bank = with(QUILL, QUILL, QUILL);
        bank.deposit(1, 8);
        bank.seal(1, 2, 8, 0);
        bank.endDays(1);
        same("account", bank.movementAccount(0), 1);
        same("journal", Banks.journal(bank), "t8@1 d8@1");
    }

    static void termsJournal_nothingElseIsAMovement() {
        InkBank bank = with(CURRENT, VAULT);
        bank.setLimit(0, 10);
        bank.seal(0, 1, 3, 5);
        bank.cancel(0);
        bank.save();
        bank.balanceAfter(0, 60);
        bank.endDays(3);
        bank.restore();
        same("journalLength", bank.journalLength(), 0);
    }
}
