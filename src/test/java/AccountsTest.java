/** Promises 1 to 14: a new object and its accounts. */
public final class AccountsTest {
    private static final Class<?> INDEX = IndexOutOfBoundsException.class;
    private static final Class<?> ARGUMENT = IllegalArgumentException.class;
    private static final Class<?> STATE = IllegalStateException.class;
    private static final Class<?> UNSUPPORTED = UnsupportedOperationException.class;
    private static final Class<?> ELEMENT = java.util.NoSuchElementException.class;
    private static final int[] EXTREMES = {-1, Integer.MIN_VALUE, Integer.MAX_VALUE};

    public static void main(String[] args) {
        newObject();
        opening();
        depositing();
        withdrawing();
        settingLimits();
        askingOfWrongAccounts();
        touching();
        interestOfCurrent();
        interestOfSavings();
        chargeOfQuill();
        interestOfVault();
        ranks();
        means();
        eightAccounts();
        Check.finish("AccountsTest");
    }

    private static void newObject() {
        InkBank bank = new InkBank();
        Check.same("new accountCount", bank.accountCount(), 0);
        Check.same("new state", Banks.state(bank), "day 0 bank 0 ink 0=0 sums 0 0 0 0\n\n");
        Check.fails("new undo", STATE, bank::undo);
        Check.fails("new restore", STATE, bank::restore);
        Check.fails("new statementAt", INDEX, () -> bank.statementAt(0));
        Check.fails("new errorPosition", ELEMENT, bank::errorPosition);
        Check.fails("new failedCommand", ELEMENT, bank::failedCommand);
        Check.same("new type", bank.type('x'), 1);
    }

    private static void opening() {
        InkBank bank = new InkBank();
        Check.fails("open(-1)", ARGUMENT, () -> bank.open(-1));
        Check.fails("open(4)", ARGUMENT, () -> bank.open(4));
        for (int account = 0; account < 8; account++) {
            Check.same("accountCount", bank.accountCount(), account);
            Check.same("open", bank.open(account % 4), account);
            Check.same("kindOf", bank.kindOf(account), account % 4);
            Check.same("balanceOf", bank.balanceOf(account), 0);
            Check.same("limitOf", bank.limitOf(account), 0);
            Check.same("wasTouched", bank.wasTouched(account), false);
        }
        Check.fails("ninth open", STATE, () -> bank.open(0));
        Check.fails("ninth open of no kind", ARGUMENT, () -> bank.open(4));
        Check.same("accountCount", bank.accountCount(), 8);
    }

    private static void depositing() {
        InkBank bank = Banks.with(InkBank.CURRENT);
        Check.same("deposit least", bank.deposit(0, 1), 1);
        Check.same("deposit most", bank.deposit(0, 999), 1000);
        Check.fails("deposit 0", ARGUMENT, () -> bank.deposit(0, 0));
        Check.fails("deposit 1000", ARGUMENT, () -> bank.deposit(0, 1000));
        for (int extreme : EXTREMES) {
            Check.fails("deposit extreme", ARGUMENT, () -> bank.deposit(0, extreme));
            Check.fails("deposit to extreme", INDEX, () -> bank.deposit(extreme, 0));
        }
        Check.fails("deposit to no account", INDEX, () -> bank.deposit(1, 1));
        Banks.fill(bank, 0, 8999);
        Check.same("just full", bank.balanceOf(0), 9999);
        Check.fails("deposit over full", STATE, () -> bank.deposit(0, 1));
        Check.fails("deposit of wrong amount over full", ARGUMENT, () -> bank.deposit(0, 1000));
        Check.same("still full", bank.balanceOf(0), 9999);
    }

    private static void withdrawing() {
        InkBank bank = Banks.with(InkBank.CURRENT, InkBank.SAVINGS);
        bank.deposit(0, 999);
        bank.deposit(0, 1);
        Check.same("withdraw most", bank.withdraw(0, 999), 1);
        Check.same("withdraw least", bank.withdraw(0, 1), 0);
        Check.fails("withdraw too much", STATE, () -> bank.withdraw(0, 1));
        bank.setLimit(0, 10);
        Check.same("withdraw to the limit", bank.withdraw(0, 10), -10);
        Check.same("availableIn at the limit", bank.availableIn(0), 0);
        Check.fails("withdraw below the limit", STATE, () -> bank.withdraw(0, 1));
        Check.fails("withdraw 0", ARGUMENT, () -> bank.withdraw(0, 0));
        Check.fails("withdraw 1000", ARGUMENT, () -> bank.withdraw(0, 1000));
        for (int extreme : EXTREMES) {
            Check.fails("withdraw extreme", ARGUMENT, () -> bank.withdraw(0, extreme));
            Check.fails("withdraw from extreme", INDEX, () -> bank.withdraw(extreme, 0));
        }
        Check.fails("withdraw from no account", INDEX, () -> bank.withdraw(2, 1));
    }

    private static void settingLimits() {
        InkBank bank = Banks.with(InkBank.CURRENT, InkBank.SAVINGS, InkBank.QUILL, InkBank.VAULT);
        Check.same("setLimit", bank.setLimit(0, 500), 0);
        Check.same("setLimit again", bank.setLimit(0, 20), 500);
        Check.same("limitOf", bank.limitOf(0), 20);
        Check.same("setLimit of quill", bank.setLimit(2, 7), 0);
        bank.deposit(0, 5);
        Check.same("availableIn", bank.availableIn(0), 25);
        bank.withdraw(0, 15);
        Check.same("availableIn below 0", bank.availableIn(0), 10);
        Check.fails("setLimit above balance", STATE, () -> bank.setLimit(0, 9));
        Check.same("setLimit at balance", bank.setLimit(0, 10), 20);
        Check.fails("setLimit -1", ARGUMENT, () -> bank.setLimit(0, -1));
        Check.fails("setLimit 501", ARGUMENT, () -> bank.setLimit(0, 501));
        Check.fails("setLimit of savings", UNSUPPORTED, () -> bank.setLimit(1, 0));
        Check.fails("setLimit of vault", UNSUPPORTED, () -> bank.setLimit(3, 0));
        Check.fails("setLimit 501 of vault", ARGUMENT, () -> bank.setLimit(3, 501));
        for (int extreme : EXTREMES) {
            Check.fails("setLimit extreme", ARGUMENT, () -> bank.setLimit(1, extreme));
            Check.fails("setLimit of extreme", INDEX, () -> bank.setLimit(extreme, -1));
        }
        Check.fails("setLimit of no account", INDEX, () -> bank.setLimit(4, 0));
    }

    private static void askingOfWrongAccounts() {
        InkBank bank = Banks.with(InkBank.CURRENT, InkBank.SAVINGS);
        for (int wrong : new int[] {2, 8, -1, Integer.MIN_VALUE, Integer.MAX_VALUE}) {
            Check.fails("kindOf", INDEX, () -> bank.kindOf(wrong));
            Check.fails("balanceOf", INDEX, () -> bank.balanceOf(wrong));
            Check.fails("limitOf", INDEX, () -> bank.limitOf(wrong));
            Check.fails("availableIn", INDEX, () -> bank.availableIn(wrong));
            Check.fails("wasTouched", INDEX, () -> bank.wasTouched(wrong));
            Check.fails("interestOf", INDEX, () -> bank.interestOf(wrong));
            Check.fails("accountAtRank", ELEMENT, () -> bank.accountAtRank(wrong));
        }
    }

    private static void touching() {
        InkBank bank = Banks.with(InkBank.CURRENT, InkBank.CURRENT);
        bank.deposit(0, 100);
        Check.same("deposit touches not", bank.wasTouched(0), false);
        bank.withdraw(0, 1);
        Check.same("withdrawal touches", bank.wasTouched(0), true);
        Check.same("the other is not touched", bank.wasTouched(1), false);
        bank.seal(1, 0, 1, 1);
        Check.same("sealing touches not", bank.wasTouched(1), false);
        bank.endDays(1);
        Check.same("a new day", bank.wasTouched(0), false);
    }

    /** Checks the interest of an account with a balance that is reached from an empty one. */
    private static void interest(int kind, int balance, int due) {
        InkBank bank = Banks.with(kind);
        if (kind == InkBank.CURRENT || kind == InkBank.QUILL) {
            bank.setLimit(0, 500);
        }
        if (balance < 0) {
            bank.withdraw(0, -balance);
        } else {
            Banks.fill(bank, 0, balance);
        }
        Check.same("interestOf kind " + kind + " with " + balance, bank.interestOf(0), due);
        bank.endDays(1);
        Check.same("kind " + kind + " with " + balance + " next day", bank.balanceOf(0), balance + due);
        Check.same("bank next day", bank.bankBalance(), -due);
    }

    private static void interestOfCurrent() {
        interest(InkBank.CURRENT, 0, 0);
        interest(InkBank.CURRENT, 99, 0);
        interest(InkBank.CURRENT, 100, 1);
        interest(InkBank.CURRENT, 250, 2);
        interest(InkBank.CURRENT, 9999, 99);
        interest(InkBank.CURRENT, -1, -1);
        interest(InkBank.CURRENT, -49, -1);
        interest(InkBank.CURRENT, -50, -2);
        interest(InkBank.CURRENT, -99, -2);
        interest(InkBank.CURRENT, -100, -4);
        interest(InkBank.CURRENT, -125, -4);
        interest(InkBank.CURRENT, -480, -18);
        interest(InkBank.CURRENT, -482, -18);
        interest(InkBank.CURRENT, -483, -17);
        interest(InkBank.CURRENT, -499, -1);
        interest(InkBank.CURRENT, -500, 0);
    }

    private static void interestOfSavings() {
        interest(InkBank.SAVINGS, 0, 0);
        interest(InkBank.SAVINGS, 99, 0);
        interest(InkBank.SAVINGS, 199, 3);
        interest(InkBank.SAVINGS, 999, 27);
        interest(InkBank.SAVINGS, 1000, 30);
        interest(InkBank.SAVINGS, 1100, 30);
        interest(InkBank.SAVINGS, 9999, 30);
    }

    private static void chargeOfQuill() {
        interest(InkBank.QUILL, 0, 0);
        interest(InkBank.QUILL, 9999, 0);
        interest(InkBank.QUILL, -1, -5);
        interest(InkBank.QUILL, -495, -5);
        interest(InkBank.QUILL, -496, -4);
        interest(InkBank.QUILL, -500, 0);
    }

    private static void interestOfVault() {
        interest(InkBank.VAULT, 99, 0);
        interest(InkBank.VAULT, 199, 5);
        interest(InkBank.VAULT, 9999, 495);
        InkBank bank = Banks.with(InkBank.VAULT);
        bank.deposit(0, 501);
        Check.same("vault untouched", bank.interestOf(0), 25);
        bank.withdraw(0, 1);
        Check.same("vault touched", bank.interestOf(0), 0);
        bank.endDays(1);
        Check.same("vault touched, next day", bank.balanceOf(0), 500);
        bank.endDays(1);
        Check.same("vault the day after", bank.balanceOf(0), 525);
        Banks.fill(bank, 0, 9999 - 525);
        bank.endDays(2);
        Check.same("interest from 9999 at most", bank.balanceOf(0), 9999 + 495 + 495);
    }

    private static void ranks() {
        InkBank bank = Banks.with(InkBank.CURRENT, InkBank.SAVINGS, InkBank.QUILL, InkBank.VAULT);
        for (int rank = 0; rank < 4; rank++) {
            Check.same("equal balances", bank.accountAtRank(rank), rank);
        }
        bank.setLimit(0, 5);
        bank.withdraw(0, 5);
        bank.deposit(2, 7);
        bank.deposit(3, 7);
        Check.same("rank 0", bank.accountAtRank(0), 2);
        Check.same("rank 1", bank.accountAtRank(1), 3);
        Check.same("rank 2", bank.accountAtRank(2), 1);
        Check.same("rank 3", bank.accountAtRank(3), 0);
        Check.fails("rank 4", ELEMENT, () -> bank.accountAtRank(4));
    }

    private static void means() {
        InkBank bank = new InkBank();
        Check.fails("mean of none", ArithmeticException.class, bank::meanBalance);
        bank.open(InkBank.CURRENT);
        Check.same("mean of one", bank.meanBalance(), 0.0);
        bank.open(InkBank.QUILL);
        bank.setLimit(1, 100);
        bank.deposit(0, 8);
        bank.withdraw(1, 3);
        Check.same("mean", bank.meanBalance(), 2.5);
        bank.open(InkBank.SAVINGS);
        Check.same("mean of three", bank.meanBalance(), 5.0 / 3.0);
    }

    private static void eightAccounts() {
        InkBank bank = Banks.with(0, 0, 0, 0, 0, 0, 0, 0);
        for (int account = 0; account < 8; account++) {
            bank.deposit(account, 100 * (account + 1));
        }
        bank.withdraw(7, 50);
        bank.seal(7, 6, 50, 0);
        bank.seal(6, 0, 1, 1);
        Check.same("mean of eight", bank.meanBalance(), 443.75);
        Check.same("sum of eight", bank.totalInk(), 3550L);
        Check.same("endDays", bank.endDays(1), 1);
        Check.same("the first", Banks.statement(bank, 0), "C0:101/0");
        Check.same("the last", Banks.statement(bank, 7), "C7:707/0");
        Check.same("the greatest", bank.accountAtRank(0), 6);
        Check.same("the least", bank.accountAtRank(7), 0);
        Check.same("net of the first", bank.netByTable(0), 1);
        Check.fails("rank 8", ELEMENT, () -> bank.accountAtRank(8));
    }
}
