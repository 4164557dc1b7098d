import java.util.function.Supplier;

/** Promises 24 to 36, sentence by sentence: sealed transfers. */
public final class Promises24To36Test extends Promises {
    public static void main(String[] args) throws IllegalAccessException {
        Check.runAll(Promises24To36Test.class);
    }

    /** Checks that a question is refused for each id that no sealed transfer has. */
    private static void refusedForNoTransfer(Question question) {
        refused("none was sealed", () -> with(QUILL, QUILL), ELEMENT, bank -> question.ask(bank, 0));
        refused("an executed one", () -> withTransfer3(), ELEMENT, bank -> question.ask(bank, 0));
        refused("a bounced one", () -> withTransfer3(), ELEMENT, bank -> question.ask(bank, 1));
        refused("a cancelled one", () -> withTransfer3(), ELEMENT, bank -> question.ask(bank, 2));
        refused("the next one", () -> withTransfer3(), ELEMENT, bank -> question.ask(bank, 4));
        for (int id : new int[] {-1, -3, Integer.MIN_VALUE, Integer.MAX_VALUE}) {
            refused("id " + id, () -> withTransfer3(), ELEMENT, bank -> question.ask(bank, id));
        }
        same("the one that is there", question.ask(withTransfer3(), 3) != null, true);
    }

    /** Returns a bank on which the transfers before the one with the id 3 are gone. */
    private static InkBank withTransfer3() {
        InkBank bank = with(QUILL, QUILL);
        bank.deposit(0, 1);
        bank.seal(0, 1, 1, 0);
        bank.seal(0, 1, 99, 0);
        bank.seal(0, 1, 1, 5);
        bank.endDays(1);
        bank.seal(0, 1, 1, 5);
        bank.cancel(2);
        return bank;
    }

    // ---- Promise 24: seal

    static void promise24_returnsTheId() {
        InkBank bank = with(QUILL, QUILL, QUILL);
        same("the first", bank.seal(2, 0, 7, 3), 0);
        same("the second", bank.seal(0, 1, 8, 2), 1);
        same("both", Banks.transfers(bank), "1:0>1 8 in 2, 0:2>0 7 in 3");
    }

    static void promise24_noSuchAccountForEither() {
        refusedForNoAccount((bank, account) -> bank.seal(account, 0, 1, 1));
        refusedForNoAccount((bank, account) -> bank.seal(0, account, 1, 1));
    }

    static void promise24_bothAccountsTheSame() {
        InkBank bank = with(QUILL, VAULT);
        refused("0", bank, ARGUMENT, () -> bank.seal(0, 0, 1, 1));
        refused("1", bank, ARGUMENT, () -> bank.seal(1, 1, 1, 1));
    }

    static void promise24_amountFrom1To999() {
        InkBank bank = with(QUILL, VAULT);
        for (int amount : outside(1, 999)) {
            refused("amount " + amount, bank, ARGUMENT, () -> bank.seal(0, 1, amount, 1));
        }
        bank.seal(0, 1, 1, 1);
        bank.seal(0, 1, 999, 1);
        same("1 and 999", Banks.transfers(bank), "0:0>1 1 in 1, 1:0>1 999 in 1");
    }

    static void promise24_daysFrom0To60() {
        InkBank bank = with(QUILL, VAULT);
        for (int days : outside(0, 60)) {
            refused("days " + days, bank, ARGUMENT, () -> bank.seal(0, 1, 1, days));
        }
        bank.seal(0, 1, 1, 0);
        bank.seal(0, 1, 1, 60);
        same("0 and 60", Banks.transfers(bank), "0:0>1 1 in 0, 1:0>1 1 in 60");
    }

    static void promise24_daysCountFromThePresentDay() {
        InkBank bank = with(QUILL, VAULT);
        bank.endDays(7);
        bank.seal(0, 1, 1, 0);
        bank.seal(0, 1, 1, 60);
        same("on day 7", Banks.transfers(bank), "0:0>1 1 in 0, 1:0>1 1 in 60");
        bank.endDays(1);
        same("on day 8", Banks.transfers(bank), "1:0>1 1 in 59");
    }

    static void promise24_theSenderNeedNotHaveTheDrops() {
        InkBank bank = with(QUILL, VAULT);
        same("seal", bank.seal(1, 0, 999, 0), 0);
    }

    private static InkBank withTen() {
        InkBank bank = with(QUILL, VAULT);
        for (int i = 0; i < 10; i++) {
            bank.seal(0, 1, 1, 1);
        }
        return bank;
    }

    static void promise24_tenSealedTransfers() {
        InkBank bank = with(QUILL, VAULT);
        for (int id = 0; id < 10; id++) {
            same("seal", bank.seal(0, 1, 1, 60), id);
        }
        refused("the eleventh", bank, STATE, () -> bank.seal(1, 0, 999, 60));
        bank.cancel(0);
        same("room again", bank.seal(1, 0, 2, 60), 10);
    }

    static void promise24_orderOfExceptions() {
        Supplier<InkBank> ten = () -> withTen();
        refused("sender before amount", ten, INDEX, bank -> bank.seal(2, 0, 0, 1));
        refused("receiver before amount", ten, INDEX, bank -> bank.seal(0, 2, 1000, 1));
        refused("receiver before days", ten, INDEX, bank -> bank.seal(0, -1, 1, 61));
        refused("account before the same account", ten, INDEX, bank -> bank.seal(2, 2, 1, 1));
        refused("account before ten transfers", ten, INDEX, bank -> bank.seal(2, 0, 1, 1));
        refused("the same account before ten transfers", ten, ARGUMENT, bank -> bank.seal(0, 0, 1, 1));
        refused("amount before ten transfers", ten, ARGUMENT, bank -> bank.seal(0, 1, 0, 1));
        refused("days before ten transfers", ten, ARGUMENT, bank -> bank.seal(0, 1, 1, -1));
    }

    // ---- Promise 25: cancel

    static void promise25_returnsItsAmount() {
        InkBank bank = with(QUILL, QUILL);
        bank.seal(0, 1, 11, 0);
        bank.seal(0, 1, 22, 0);
        bank.seal(0, 1, 33, 0);
        same("cancel(1)", bank.cancel(1), 22);
        same("the others", Banks.transfers(bank), "0:0>1 11 in 0, 2:0>1 33 in 0");
        same("cancel(2)", bank.cancel(2), 33);
        same("cancel(0)", bank.cancel(0), 11);
        same("none is left", bank.transferCount(), 0);
    }

    static void promise25_noSuchTransfer() {
        refusedForNoTransfer((bank, id) -> bank.cancel(id));
    }

    static void promise25_notTwice() {
        InkBank bank = with(QUILL, QUILL);
        bank.seal(0, 1, 11, 0);
        bank.cancel(0);
        refused("again", bank, ELEMENT, () -> bank.cancel(0));
        bank.undo();
        same("after undo", bank.cancel(0), 11);
    }

    // ---- Promise 26: transferCount

    static void promise26_transferCount() {
        InkBank bank = with(QUILL, QUILL);
        same("at first", bank.transferCount(), 0);
        bank.deposit(0, 1);
        for (int count = 1; count <= 10; count++) {
            bank.seal(0, 1, 1, count < 3 ? 0 : 9);
            same("sealed", bank.transferCount(), count);
        }
        bank.cancel(9);
        same("one cancelled", bank.transferCount(), 9);
        bank.endDays(1);
        same("one executed, one bounced", bank.transferCount(), 7);
    }

    // ---- Promise 27: transferAt

    private static String order(InkBank bank) {
        StringBuilder text = new StringBuilder();
        for (int position = 0; position < bank.transferCount(); position++) {
            text.append(bank.transferAt(position)).append(' ');
        }
        return text.toString();
    }

    static void promise27_dueDaysThenIds() {
        InkBank bank = with(QUILL, QUILL);
        for (int days : new int[] {3, 1, 3, 0, 1, 60, 0, 2, 3, 1}) {
            bank.seal(0, 1, 1, days);
        }
        same("order", order(bank), "3 6 1 4 9 7 0 2 8 5 ");
        bank.cancel(4);
        same("one cancelled", order(bank), "3 6 1 9 7 0 2 8 5 ");
        bank.endDays(1);
        same("a day later", order(bank), "1 9 7 0 2 8 5 ");
        bank.seal(0, 1, 1, 0);
        same("one more, due with 1 and 9", order(bank), "1 9 10 7 0 2 8 5 ");
    }

    static void promise27_noSuchPosition() {
        refused("none was sealed", () -> with(QUILL, QUILL), INDEX, bank -> bank.transferAt(0));
        for (int position : outside(2)) {
            refused("position " + position, () -> withTwo(), INDEX, bank -> bank.transferAt(position));
        }
        same("the last of ten", withTen().transferAt(9), 9);
        refused("position 10 of ten", () -> withTen(), INDEX, bank -> bank.transferAt(10));
    }

    private static InkBank withTwo() {
        InkBank bank = with(QUILL, QUILL);
        bank.seal(0, 1, 1, 0);
        bank.seal(0, 1, 1, 3);
        return bank;
    }

    // ---- Promises 28 to 30: senderOf, receiverOf, amountOf

    private static InkBank withThree() {
        InkBank bank = with(QUILL, QUILL, QUILL, QUILL);
        bank.seal(0, 1, 10, 9);
        bank.seal(2, 3, 20, 8);
        bank.seal(3, 0, 30, 7);
        return bank;
    }

    static void promise28_senderOf() {
        InkBank bank = withThree();
        same("senderOf", "" + bank.senderOf(0) + bank.senderOf(1) + bank.senderOf(2), "023");
        bank.cancel(0);
        same("after a cancelled one", "" + bank.senderOf(1) + bank.senderOf(2), "23");
    }

    static void promise28_noSuchTransfer() {
        refusedForNoTransfer((bank, id) -> bank.senderOf(id));
    }

    static void promise29_receiverOf() {
        InkBank bank = withThree();
        same("receiverOf", "" + bank.receiverOf(0) + bank.receiverOf(1) + bank.receiverOf(2), "130");
        bank.cancel(0);
        same("after a cancelled one", "" + bank.receiverOf(1) + bank.receiverOf(2), "30");
    }

    static void promise29_noSuchTransfer() {
        refusedForNoTransfer((bank, id) -> bank.receiverOf(id));
    }

    static void promise30_amountOf() {
        InkBank bank = withThree();
        same("amountOf", "" + bank.amountOf(0) + bank.amountOf(1) + bank.amountOf(2), "102030");
        bank.cancel(0);
        same("after a cancelled one", "" + bank.amountOf(1) + bank.amountOf(2), "2030");
    }

    static void promise30_noSuchTransfer() {
        refusedForNoTransfer((bank, id) -> bank.amountOf(id));
    }

    // ---- Promise 31: daysUntilDue

    static void promise31_daysUntilDue() {
        InkBank bank = with(QUILL, QUILL);
        bank.endDays(5);
        bank.seal(0, 1, 1, 60);
        bank.seal(0, 1, 1, 0);
        same("60", bank.daysUntilDue(0), 60);
        same("the present day", bank.daysUntilDue(1), 0);
        bank.endDays(1);
        same("59", bank.daysUntilDue(0), 59);
        bank.endDays(59);
        same("due", bank.daysUntilDue(0), 0);
    }

    static void promise31_noSuchTransfer() {
        refusedForNoTransfer((bank, id) -> bank.daysUntilDue(id));
    }

    // ---- Promise 32: wouldBounce

    static void promise32_justCoveredOrNot() {
        InkBank bank = with(QUILL, QUILL);
        bank.setLimit(0, 40);
        bank.deposit(0, 10);
        bank.seal(0, 1, 50, 0);
        bank.seal(1, 0, 1, 0);
        bank.cancel(1);
        same("50", bank.wouldBounce(0), false);
        bank.cancel(0);
        bank.seal(0, 1, 51, 0);
        same("51", bank.wouldBounce(2), true);
    }

    static void promise32_afterTheDaysBefore() {
        InkBank bank = holding(SAVINGS, 100);
        bank.open(QUILL);
        bank.seal(0, 1, 106, 1);
        bank.seal(0, 1, 106, 2);
        same("one day's interest is too little", bank.wouldBounce(0), true);
        bank.cancel(0);
        same("two days' interest", bank.wouldBounce(1), false);
        same("executed", bank.endDays(3), 1);
    }

    static void promise32_afterTheChargesOfTheDaysBefore() {
        InkBank bank = with(QUILL, QUILL);
        bank.setLimit(0, 50);
        bank.withdraw(0, 10);
        bank.seal(0, 1, 31, 2);
        bank.seal(0, 1, 30, 2);
        same("31 of 30", bank.wouldBounce(0), true);
        bank.cancel(0);
        same("30 of 30", bank.wouldBounce(1), false);
    }

    static void promise32_notAfterTheInterestOfItsOwnDay() {
        InkBank bank = holding(VAULT, 100);
        bank.open(QUILL);
        bank.seal(0, 1, 105, 0);
        bank.seal(0, 1, 110, 1);
        same("today", bank.wouldBounce(0), true);
        same("tomorrow", bank.wouldBounce(1), true);
        bank.cancel(0);
        same("tomorrow without the fee", bank.wouldBounce(1), true);
    }

    static void promise32_afterOlderOnesOfThatDay() {
        InkBank bank = with(QUILL, QUILL);
        bank.deposit(0, 10);
        bank.seal(0, 1, 6, 3);
        bank.seal(0, 1, 5, 3);
        bank.seal(1, 0, 6, 3);
        same("the first", bank.wouldBounce(0), false);
        same("too little is left", bank.wouldBounce(1), true);
        same("received just before", bank.wouldBounce(2), false);
    }

    static void promise32_beforeYoungerOnesOfThatDay() {
        InkBank bank = with(QUILL, QUILL);
        bank.deposit(0, 10);
        bank.seal(1, 0, 10, 0);
        bank.seal(0, 1, 10, 0);
        same("not received yet", bank.wouldBounce(0), true);
        same("the younger one", bank.wouldBounce(1), false);
    }

    static void promise32_notAfterOlderOnesOfLaterDays() {
        InkBank bank = with(QUILL, QUILL);
        bank.deposit(0, 10);
        bank.seal(0, 1, 10, 5);
        bank.seal(0, 1, 10, 4);
        same("the older one, due later", bank.wouldBounce(0), true);
        same("the younger one, due sooner", bank.wouldBounce(1), false);
    }

    static void promise32_afterTheFeeOfAnOlderOne() {
        InkBank bank = with(QUILL, QUILL);
        bank.deposit(0, 10);
        bank.seal(0, 1, 11, 0);
        bank.seal(0, 1, 8, 0);
        same("10 less 3", bank.wouldBounce(1), true);
        bank.seal(0, 1, 4, 1);
        same("and less 3 again", bank.wouldBounce(2), false);
        bank.seal(0, 1, 1, 1);
        same("nothing is left", bank.wouldBounce(3), true);
    }

    static void promise32_sixtyDaysAhead() {
        InkBank bank = holding(SAVINGS, 1000);
        Banks.fill(bank, 0, 8000);
        bank.open(SAVINGS);
        bank.deposit(1, 10);
        bank.seal(1, 0, 11, 60);
        bank.seal(0, 1, 999, 60);
        bank.seal(1, 0, 999, 60);
        same("not covered", bank.wouldBounce(0), true);
        same("covered", bank.wouldBounce(1), false);
        same("covered by that", bank.wouldBounce(2), false);
    }

    static void promise32_onALaterDay() {
        InkBank bank = with(QUILL, QUILL);
        bank.endDays(7);
        bank.deposit(0, 10);
        bank.seal(0, 1, 10, 0);
        bank.seal(0, 1, 1, 2);
        bank.seal(1, 0, 10, 2);
        same("today", bank.wouldBounce(0), false);
        same("nothing is left", bank.wouldBounce(1), true);
        same("received before", bank.wouldBounce(2), false);
    }

    static void promise32_nothingChanges() {
        InkBank bank = with(VAULT, QUILL);
        bank.deposit(0, 500);
        bank.withdraw(0, 1);
        bank.seal(0, 1, 100, 3);
        bank.seal(0, 1, 999, 4);
        bank.writeStatement(0);
        String before = Banks.all(bank);
        same("wouldBounce", bank.wouldBounce(1), true);
        same("all", Banks.all(bank), before);
        same("undo", bank.undo(), 5);
        same("undone", Banks.transfers(bank), "0:0>1 100 in 3");
    }

    static void promise32_noSuchTransfer() {
        refusedForNoTransfer((bank, id) -> bank.wouldBounce(id));
    }

    // ---- Promise 33: bounceCount

    static void promise33_bounceCount() {
        InkBank bank = with(QUILL, QUILL);
        same("at first", bank.bounceCount(), 0);
        bank.deposit(0, 1);
        bank.seal(0, 1, 1, 0);
        bank.seal(0, 1, 9, 0);
        bank.seal(0, 1, 9, 0);
        bank.seal(0, 1, 9, 1);
        bank.seal(0, 1, 9, 5);
        same("sealed", bank.bounceCount(), 0);
        bank.endDays(1);
        same("two of three", bank.bounceCount(), 2);
        bank.endDays(1);
        same("three in all", bank.bounceCount(), 3);
        bank.cancel(4);
        bank.endDays(9);
        same("a cancelled one doesn't bounce", bank.bounceCount(), 3);
        bank.undo();
        bank.undo();
        bank.undo();
        same("a day undone", bank.bounceCount(), 2);
    }

    // ---- Promises 34 and 35: netOf, netByTable

    private static String nets(InkBank bank) {
        StringBuilder text = new StringBuilder();
        for (int account = 0; account < bank.accountCount(); account++) {
            text.append(bank.netOf(account)).append('=').append(bank.netByTable(account)).append(' ');
        }
        return text.toString();
    }

    static void promise34_promise35_receivedMinusSent() {
        InkBank bank = with(QUILL, QUILL, QUILL);
        same("none sealed", nets(bank), "0=0 0=0 0=0 ");
        bank.seal(0, 1, 100, 5);
        same("one", nets(bank), "-100=-100 100=100 0=0 ");
        bank.seal(0, 1, 10, 0);
        bank.seal(1, 2, 7, 3);
        bank.seal(1, 0, 2, 3);
        same("four", nets(bank), "-108=-108 101=101 7=7 ");
        same("asked again", nets(bank), "-108=-108 101=101 7=7 ");
    }

    static void promise34_promise35_onlySealedOnes() {
        InkBank bank = with(QUILL, QUILL);
        bank.deposit(0, 5);
        bank.seal(0, 1, 5, 0);
        bank.seal(0, 1, 6, 0);
        bank.seal(0, 1, 7, 1);
        bank.seal(0, 1, 8, 1);
        bank.cancel(2);
        same("one cancelled", nets(bank), "-19=-19 19=19 ");
        bank.endDays(1);
        same("one executed, one bounced", nets(bank), "-8=-8 8=8 ");
    }

    static void promise34_promise35_thoughItWouldBounce() {
        InkBank bank = with(QUILL, QUILL);
        bank.seal(1, 0, 999, 60);
        same("nets", nets(bank), "999=999 -999=-999 ");
    }

    static void promise34_promise35_tenTransfersOfEightAccounts() {
        InkBank bank = with(0, 0, 0, 0, 0, 0, 0, 0);
        for (int i = 0; i < 9; i++) {
            bank.seal(7, 0, 999, i);
        }
        bank.seal(6, 7, 1, 0);
        same("nets", nets(bank), "8991=8991 0=0 0=0 0=0 0=0 0=0 -1=-1 -8990=-8990 ");
    }

    static void promise34_noSuchAccount() {
        refusedForNoAccount((bank, account) -> bank.netOf(account));
    }

    static void promise35_noSuchAccount() {
        refusedForNoAccount((bank, account) -> bank.netByTable(account));
    }

    // ---- Promise 36: leadsTo

    /** Returns for each account to which others transfers lead, as in "0>1 0>2 1>2 ". */
    private static String ways(InkBank bank) {
        StringBuilder text = new StringBuilder();
        for (int from = 0; from < bank.accountCount(); from++) {
            for (int to = 0; to < bank.accountCount(); to++) {
                text.append(bank.leadsTo(from, to) ? from + ">" + to + " " : "");
            }
        }
        return text.toString();
    }

    static void promise36_directlyOrOverOthers() {
        InkBank bank = with(QUILL, QUILL, QUILL, QUILL);
        same("none sealed", ways(bank), "");
        bank.seal(1, 2, 1, 9);
        same("directly", ways(bank), "1>2 ");
        bank.seal(0, 1, 1, 0);
        same("over 1", ways(bank), "0>1 0>2 1>2 ");
        bank.seal(3, 0, 1, 5);
        same("over 0 and 1", ways(bank), "0>1 0>2 1>2 3>0 3>1 3>2 ");
        bank.cancel(1);
        same("one cancelled", ways(bank), "1>2 3>0 ");
    }

    static void promise36_backToTheSameAccount() {
        InkBank bank = with(QUILL, QUILL, QUILL);
        same("none sealed", bank.leadsTo(0, 0), false);
        bank.seal(0, 1, 1, 1);
        same("there", bank.leadsTo(0, 0), false);
        bank.seal(1, 0, 1, 1);
        same("and back", ways(bank), "0>0 0>1 1>0 1>1 ");
        bank.cancel(0);
        bank.seal(0, 2, 1, 1);
        bank.seal(2, 1, 1, 1);
        same("back over two others", bank.leadsTo(0, 0), true);
    }

    static void promise36_intoARingIsNotBack() {
        InkBank bank = with(QUILL, QUILL, QUILL);
        bank.seal(0, 1, 1, 1);
        bank.seal(1, 2, 1, 1);
        bank.seal(2, 1, 1, 1);
        same("ways", ways(bank), "0>1 0>2 1>1 1>2 2>1 2>2 ");
    }

    static void promise36_overAllEight() {
        InkBank bank = with(0, 0, 0, 0, 0, 0, 0, 0);
        for (int from = 6; from >= 0; from--) {
            bank.seal(from, from + 1, 1, 1);
        }
        same("from first to last", bank.leadsTo(0, 7), true);
        same("not back", bank.leadsTo(7, 0), false);
        same("not to itself", bank.leadsTo(0, 0), false);
        bank.seal(7, 0, 1, 1);
        same("a ring", bank.leadsTo(0, 0), true);
        same("round the ring", bank.leadsTo(4, 3), true);
    }

    static void promise36_roundAllEightAgainstTheOrderOfIds() {
        InkBank bank = with(0, 0, 0, 0, 0, 0, 0, 0);
        for (int from = 7; from >= 0; from--) {
            bank.seal(from, (from + 1) % 8, 1, 1);
        }
        for (int account = 0; account < 8; account++) {
            same("a ring", bank.leadsTo(account, account), true);
        }
    }

    static void promise36_onlySealedOnes() {
        InkBank bank = with(QUILL, QUILL);
        bank.deposit(0, 1);
        bank.seal(0, 1, 1, 0);
        bank.endDays(1);
        same("an executed one", ways(bank), "");
    }

    static void promise36_noSuchAccountForEither() {
        refusedForNoAccount((bank, account) -> bank.leadsTo(account, 0));
        refusedForNoAccount((bank, account) -> bank.leadsTo(0, account));
        refusedForNoAccount((bank, account) -> bank.leadsTo(account, account));
    }
}
