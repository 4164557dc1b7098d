import java.util.function.Supplier;

/** Promises 1 to 14, sentence by sentence: a new object and its accounts. */
public final class Promises01To14Test extends Promises {
    public static void main(String[] args) throws IllegalAccessException {
        Check.runAll(Promises01To14Test.class);
    }

    // ---- Promise 1: a new object

    static void promise01_withoutAccountsOnDay0() {
        InkBank bank = new InkBank();
        same("accountCount", bank.accountCount(), 0);
        same("day", bank.day(), 0);
        same("all", Banks.all(bank), "day 0 bank 0 ink 0=0 sums 0 0 0 0\n\n\n0  none none");
    }

    static void promise01_nothingToUndoOrRestore() {
        InkBank bank = new InkBank();
        refused("undo", bank, STATE, bank::undo);
        refused("restore", bank, STATE, bank::restore);
    }

    // ---- Promise 2: open

    static void promise02_returnsTheNumber() {
        InkBank bank = new InkBank();
        for (int account = 0; account < 8; account++) {
            same("open", bank.open(account % 4), account);
        }
    }

    static void promise02_eachKind() {
        InkBank bank = new InkBank();
        for (int kind : new int[] {0, 1, 2, 3}) {
            same("kind", bank.kindOf(bank.open(kind)), kind);
        }
    }

    static void promise02_noSuchKind() {
        InkBank bank = with(CURRENT);
        for (int kind : outside(4)) {
            refused("open(" + kind + ")", bank, ARGUMENT, () -> bank.open(kind));
        }
        same("the next number", bank.open(CURRENT), 1);
    }

    static void promise02_eightAccounts() {
        same("the eighth", with(0, 1, 2, 3, 0, 1, 2).open(CURRENT), 7);
        for (int kind = 0; kind < 4; kind++) {
            int any = kind;
            refused("the ninth", () -> with(0, 1, 2, 3, 0, 1, 2, 3), STATE, bank -> bank.open(any));
        }
    }

    static void promise02_wrongKindComesBeforeEightAccounts() {
        InkBank bank = with(0, 1, 2, 3, 0, 1, 2, 3);
        refused("open(4)", bank, ARGUMENT, () -> bank.open(4));
        refused("open(-1)", bank, ARGUMENT, () -> bank.open(-1));
    }

    // ---- Promise 3: deposit

    static void promise03_returnsTheBalanceAfterwards() {
        InkBank bank = with(CURRENT, QUILL);
        same("1", bank.deposit(1, 1), 1);
        same("999", bank.deposit(1, 999), 1000);
        same("balanceOf", bank.balanceOf(1), 1000);
        same("the other account", bank.balanceOf(0), 0);
    }

    static void promise03_intoAnOverdraft() {
        InkBank bank = holding(CURRENT, -10);
        same("still below 0", bank.deposit(0, 3), -7);
        same("to 0", bank.deposit(0, 7), 0);
    }

    static void promise03_noSuchAccount() {
        refusedForNoAccount((bank, account) -> bank.deposit(account, 1));
    }

    static void promise03_amountOutOfRange() {
        InkBank bank = with(CURRENT);
        for (int amount : outside(1, 999)) {
            refused("amount " + amount, bank, ARGUMENT, () -> bank.deposit(0, amount));
        }
    }

    static void promise03_balanceOver9999() {
        InkBank bank = holding(SAVINGS, 9000);
        bank.deposit(0, 1);
        refused("to 10000", bank, STATE, () -> bank.deposit(0, 999));
        same("to 9999", bank.deposit(0, 998), 9999);
        refused("1 more", bank, STATE, () -> bank.deposit(0, 1));
        refused("999 more", bank, STATE, () -> bank.deposit(0, 999));
    }

    static void promise03_balanceAbove9999Already() {
        InkBank bank = holding(VAULT, 9999);
        bank.endDays(1);
        refused("1 more", bank, STATE, () -> bank.deposit(0, 1));
        bank.withdraw(0, 496);
        same("again to 9999", bank.deposit(0, 1), 9999);
    }

    static void promise03_orderOfExceptions() {
        Supplier<InkBank> full = () -> holding(QUILL, 9999);
        refused("account before amount", full, INDEX, bank -> bank.deposit(1, 0));
        refused("account before amount", full, INDEX, bank -> bank.deposit(-1, 1000));
        refused("amount before balance", full, ARGUMENT, bank -> bank.deposit(0, 1000));
        refused("amount before balance", full, ARGUMENT, bank -> bank.deposit(0, Integer.MAX_VALUE));
    }

    // ---- Promise 4: withdraw

    static void promise04_returnsTheBalanceAfterwards() {
        InkBank bank = with(CURRENT, QUILL);
        bank.deposit(1, 999);
        bank.deposit(1, 999);
        same("1", bank.withdraw(1, 1), 1997);
        same("999", bank.withdraw(1, 999), 998);
        same("balanceOf", bank.balanceOf(1), 998);
        same("the other account", bank.balanceOf(0), 0);
    }

    static void promise04_noSuchAccount() {
        refusedForNoAccount((bank, account) -> bank.withdraw(account, 1));
    }

    static void promise04_amountOutOfRange() {
        for (int amount : outside(1, 999)) {
            refused("amount " + amount, () -> holding(CURRENT, 5000), ARGUMENT, bank -> bank.withdraw(0, amount));
        }
    }

    static void promise04_balanceBelowTheLimit() {
        InkBank bank = with(CURRENT, VAULT);
        refused("an empty account", bank, STATE, () -> bank.withdraw(0, 1));
        bank.setLimit(0, 10);
        bank.deposit(0, 5);
        refused("to -11", bank, STATE, () -> bank.withdraw(0, 16));
        same("to -10", bank.withdraw(0, 15), -10);
        refused("1 more", bank, STATE, () -> bank.withdraw(0, 1));
        refused("a vault", bank, STATE, () -> bank.withdraw(1, 999));
    }

    static void promise04_theGreatestLimit() {
        InkBank bank = with(QUILL);
        bank.setLimit(0, 500);
        bank.deposit(0, 499);
        same("to -500", bank.withdraw(0, 999), -500);
        refused("1 more", bank, STATE, () -> bank.withdraw(0, 1));
    }

    static void promise04_orderOfExceptions() {
        InkBank bank = with(QUILL);
        refused("account before amount", bank, INDEX, () -> bank.withdraw(1, 0));
        refused("account before amount", bank, INDEX, () -> bank.withdraw(-1, 1000));
        refused("amount before balance", bank, ARGUMENT, () -> bank.withdraw(0, 1000));
        refused("amount before balance", bank, ARGUMENT, () -> bank.withdraw(0, Integer.MAX_VALUE));
    }

    // ---- Promise 5: setLimit

    static void promise05_returnsThePreviousLimit() {
        InkBank bank = with(CURRENT, QUILL);
        same("the first", bank.setLimit(1, 30), 0);
        same("the second", bank.setLimit(1, 500), 30);
        same("the same again", bank.setLimit(1, 500), 500);
        same("back to 0", bank.setLimit(1, 0), 500);
        same("the other account", bank.setLimit(0, 1), 0);
    }

    static void promise05_noSuchAccount() {
        refusedForNoAccount((bank, account) -> bank.setLimit(account, 1));
    }

    static void promise05_limitOutOfRange() {
        InkBank bank = with(CURRENT);
        bank.setLimit(0, 7);
        for (int limit : outside(0, 500)) {
            refused("limit " + limit, bank, ARGUMENT, () -> bank.setLimit(0, limit));
        }
    }

    static void promise05_savingsAccountOrVault() {
        InkBank bank = with(CURRENT, QUILL);
        same("current account", bank.setLimit(0, 1), 0);
        same("quill account", bank.setLimit(1, 1), 0);
        for (int limit : new int[] {0, 1, 500}) {
            refused("savings account, " + limit, () -> with(SAVINGS), UNSUPPORTED, savings -> savings.setLimit(0, limit));
            refused("vault, " + limit, () -> with(VAULT), UNSUPPORTED, vault -> vault.setLimit(0, limit));
        }
    }

    static void promise05_balanceBelowTheNewLimit() {
        InkBank bank = holding(CURRENT, -20);
        refused("19", bank, STATE, () -> bank.setLimit(0, 19));
        refused("0", bank, STATE, () -> bank.setLimit(0, 0));
        same("20", bank.setLimit(0, 20), 500);
        bank.deposit(0, 20);
        same("0 with a balance of 0", bank.setLimit(0, 0), 20);
        InkBank quill = holding(QUILL, -1);
        refused("0 with a balance of -1", quill, STATE, () -> quill.setLimit(0, 0));
    }

    static void promise05_orderOfExceptions() {
        InkBank bank = with(CURRENT, VAULT, SAVINGS);
        bank.setLimit(0, 10);
        bank.withdraw(0, 10);
        refused("account before limit", bank, INDEX, () -> bank.setLimit(3, 501));
        refused("account before limit", bank, INDEX, () -> bank.setLimit(-1, -1));
        refused("limit before kind", bank, ARGUMENT, () -> bank.setLimit(1, 501));
        refused("limit before kind", bank, ARGUMENT, () -> bank.setLimit(2, -1));
        refused("limit before balance", bank, ARGUMENT, () -> bank.setLimit(0, -1));
    }

    // ---- Promise 6: accountCount

    static void promise06_accountCount() {
        InkBank bank = new InkBank();
        for (int count = 0; count < 8; count++) {
            same("accountCount", bank.accountCount(), count);
            bank.open(VAULT);
        }
        same("all of them", bank.accountCount(), 8);
        bank.undo();
        same("one undone", bank.accountCount(), 7);
    }

    // ---- Promise 7: kindOf

    static void promise07_kindOf() {
        InkBank bank = with(VAULT, QUILL, SAVINGS, CURRENT);
        same("kinds", "" + bank.kindOf(0) + bank.kindOf(1) + bank.kindOf(2) + bank.kindOf(3), "3210");
    }

    static void promise07_noSuchAccount() {
        refusedForNoAccount((bank, account) -> bank.kindOf(account));
    }

    // ---- Promise 8: balanceOf

    static void promise08_balanceOf() {
        InkBank bank = with(VAULT, QUILL);
        same("at first", bank.balanceOf(1), 0);
        bank.setLimit(1, 9);
        bank.withdraw(1, 9);
        same("negative", bank.balanceOf(1), -9);
        same("the other account", bank.balanceOf(0), 0);
    }

    static void promise08_noSuchAccount() {
        refusedForNoAccount((bank, account) -> bank.balanceOf(account));
    }

    // ---- Promise 9: limitOf

    static void promise09_limitOf() {
        InkBank bank = with(QUILL, QUILL);
        same("at first", bank.limitOf(1), 0);
        bank.setLimit(1, 500);
        same("set", bank.limitOf(1), 500);
        same("the other account", bank.limitOf(0), 0);
    }

    static void promise09_noSuchAccount() {
        refusedForNoAccount((bank, account) -> bank.limitOf(account));
    }

    // ---- Promise 10: availableIn

    static void promise10_balancePlusLimit() {
        InkBank bank = with(CURRENT, VAULT);
        same("at first", bank.availableIn(0), 0);
        bank.setLimit(0, 20);
        same("the limit", bank.availableIn(0), 20);
        bank.deposit(0, 5);
        same("both", bank.availableIn(0), 25);
        bank.withdraw(0, 15);
        same("below 0", bank.availableIn(0), 10);
        bank.withdraw(0, 10);
        same("at the limit", bank.availableIn(0), 0);
        bank.deposit(1, 70);
        same("vault", bank.availableIn(1), 70);
    }

    static void promise10_couldBeWithdrawnNow() {
        InkBank bank = with(QUILL);
        bank.setLimit(0, 33);
        bank.deposit(0, 44);
        refused("one more", bank, STATE, () -> bank.withdraw(0, bank.availableIn(0) + 1));
        same("all of it", bank.withdraw(0, bank.availableIn(0)), -33);
    }

    static void promise10_sealedTransfersDoNotCount() {
        InkBank bank = with(QUILL, QUILL);
        bank.deposit(0, 44);
        bank.seal(0, 1, 40, 0);
        same("availableIn", bank.availableIn(0), 44);
    }

    static void promise10_noSuchAccount() {
        refusedForNoAccount((bank, account) -> bank.availableIn(account));
    }

    // ---- Promise 11: wasTouched

    static void promise11_aWithdrawalTouches() {
        InkBank bank = with(CURRENT, SAVINGS, QUILL, VAULT);
        for (int account = 0; account < 4; account++) {
            same("at first", bank.wasTouched(account), false);
            bank.deposit(account, 2);
            same("a deposit", bank.wasTouched(account), false);
            bank.withdraw(account, 1);
            same("one drop withdrawn", bank.wasTouched(account), true);
            bank.deposit(account, 1);
            same("and deposited again", bank.wasTouched(account), true);
        }
    }

    static void promise11_onlyTheAccountItself() {
        InkBank bank = with(QUILL, QUILL);
        bank.deposit(1, 2);
        bank.withdraw(1, 1);
        same("the other account", bank.wasTouched(0), false);
    }

    static void promise11_aRefusedWithdrawalTouchesNot() {
        InkBank bank = with(QUILL);
        refused("withdraw", bank, STATE, () -> bank.withdraw(0, 1));
        same("wasTouched", bank.wasTouched(0), false);
    }

    static void promise11_sealingAndCancellingTouchNot() {
        InkBank bank = with(QUILL, QUILL);
        bank.deposit(0, 2);
        bank.seal(0, 1, 1, 0);
        same("sealed", bank.wasTouched(0), false);
        bank.cancel(0);
        same("cancelled", bank.wasTouched(0), false);
    }

    static void promise11_notSinceTheEndOfTheLastDay() {
        InkBank bank = with(QUILL, QUILL);
        bank.setLimit(0, 10);
        bank.withdraw(0, 1);
        bank.deposit(1, 9);
        bank.seal(1, 0, 4, 0);
        bank.seal(0, 1, 99, 0);
        bank.endDays(1);
        same("withdrawn, charged and a fee before", bank.wasTouched(0), false);
        same("sent at the end of the last day", bank.wasTouched(1), false);
    }

    static void promise11_undone() {
        InkBank bank = holding(QUILL, 5);
        bank.withdraw(0, 1);
        bank.endDays(1);
        bank.undo();
        same("the day undone", bank.wasTouched(0), true);
        bank.undo();
        same("the withdrawal undone", bank.wasTouched(0), false);
    }

    static void promise11_noSuchAccount() {
        refusedForNoAccount((bank, account) -> bank.wasTouched(account));
    }

    // ---- Promise 12: interestOf

    static void promise12_interestChargeOrNeither() {
        same("interest", holding(CURRENT, 500).interestOf(0), 5);
        same("charge", holding(CURRENT, -500 + 300).interestOf(0), -8);
        same("neither", holding(CURRENT, 99).interestOf(0), 0);
        same("neither", holding(QUILL, 999).interestOf(0), 0);
    }

    static void promise12_aChargeIsReduced() {
        InkBank bank = with(QUILL);
        bank.setLimit(0, 10);
        bank.withdraw(0, 5);
        same("5 left", bank.interestOf(0), -5);
        bank.withdraw(0, 1);
        same("4 left", bank.interestOf(0), -4);
        bank.withdraw(0, 4);
        same("none left", bank.interestOf(0), 0);
    }

    static void promise12_theSecondStepAlone() {
        InkBank bank = with(VAULT, QUILL);
        bank.deposit(0, 200);
        bank.seal(0, 1, 150, 0);
        same("before the transfer", bank.interestOf(0), 10);
        bank.withdraw(0, 1);
        same("touched", bank.interestOf(0), 0);
    }

    static void promise12_nothingIsPaid() {
        InkBank bank = holding(SAVINGS, 500);
        String before = Banks.all(bank);
        same("interestOf", bank.interestOf(0), 15);
        same("all", Banks.all(bank), before);
    }

    static void promise12_noSuchAccount() {
        refusedForNoAccount((bank, account) -> bank.interestOf(account));
    }

    // ---- Promise 13: accountAtRank

    private static String ranks(InkBank bank) {
        StringBuilder text = new StringBuilder();
        for (int rank = 0; rank < bank.accountCount(); rank++) {
            text.append(bank.accountAtRank(rank));
        }
        return text.toString();
    }

    static void promise13_theGreatestBalanceFirst() {
        InkBank bank = with(QUILL, QUILL, QUILL, QUILL);
        bank.setLimit(0, 9);
        bank.withdraw(0, 1);
        bank.deposit(1, 5);
        bank.deposit(2, 7);
        same("ranks", ranks(bank), "2130");
        bank.deposit(0, 99);
        same("ranks changed", ranks(bank), "0213");
    }

    static void promise13_theLowestNumberFirstIfEqual() {
        InkBank bank = with(0, 1, 2, 3, 0, 1, 2, 3);
        same("all equal", ranks(bank), "01234567");
        bank.deposit(6, 5);
        bank.deposit(2, 5);
        same("two greater and equal", ranks(bank), "26013457");
        bank.setLimit(4, 1);
        bank.setLimit(0, 1);
        bank.withdraw(4, 1);
        bank.withdraw(0, 1);
        same("two less and equal", ranks(bank), "26135704");
    }

    static void promise13_theLimitDoesNotCount() {
        InkBank bank = with(QUILL, QUILL);
        bank.setLimit(0, 500);
        bank.deposit(1, 1);
        same("ranks", ranks(bank), "10");
    }

    static void promise13_noSuchRank() {
        InkBank none = new InkBank();
        refused("no accounts", none, ELEMENT, () -> none.accountAtRank(0));
        InkBank bank = with(VAULT, QUILL);
        for (int rank : outside(2)) {
            refused("rank " + rank, bank, ELEMENT, () -> bank.accountAtRank(rank));
        }
        InkBank eight = with(0, 0, 0, 0, 0, 0, 0, 0);
        same("the last of eight", eight.accountAtRank(7), 7);
        refused("rank 8 of eight", eight, ELEMENT, () -> eight.accountAtRank(8));
    }

    // ---- Promise 14: meanBalance

    static void promise14_sumDividedByNumber() {
        InkBank bank = with(QUILL);
        same("0", bank.meanBalance(), 0.0);
        bank.deposit(0, 1);
        same("1 / 1", bank.meanBalance(), 1.0);
        bank.open(QUILL);
        same("1 / 2", bank.meanBalance(), 0.5);
        bank.open(QUILL);
        same("1 / 3", bank.meanBalance(), 1.0 / 3.0);
        bank.setLimit(2, 100);
        bank.withdraw(2, 3);
        same("-2 / 3", bank.meanBalance(), -2.0 / 3.0);
    }

    static void promise14_theBankIsNoAccount() {
        InkBank bank = holding(CURRENT, 500);
        bank.endDays(1);
        same("meanBalance", bank.meanBalance(), 505.0);
    }

    static void promise14_noAccounts() {
        InkBank bank = new InkBank();
        refused("at first", bank, ArithmeticException.class, bank::meanBalance);
        bank.endDays(1);
        refused("a day later", bank, ArithmeticException.class, bank::meanBalance);
        bank.open(CURRENT);
        bank.undo();
        refused("opened and undone", bank, ArithmeticException.class, bank::meanBalance);
    }
}
