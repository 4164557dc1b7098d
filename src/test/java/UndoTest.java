/** Promises 47 to 49: undo and the snapshot. */
public final class UndoTest {
    private static final Class<?> STATE = IllegalStateException.class;

    public static void main(String[] args) {
        everyModification();
        onlyTheLastEight();
        failuresAreNone();
        notAffected();
        openingAgain();
        snapshots();
        snapshotAndUndo();
        Check.finish("UndoTest");
    }

    /** Undoes what a change does and looks whether all is as before. */
    private static void undone(String what, InkBank bank, Runnable change) {
        String before = Banks.state(bank);
        change.run();
        Check.same(what + " changes", Banks.state(bank).equals(before), false);
        Check.same("undo of " + what, bank.undo(), 7);
        Check.same("state after undo of " + what, Banks.state(bank), before);
        // So that eight can be undone ahead of each change.
        bank.deposit(2, 1);
    }

    private static void everyModification() {
        InkBank bank = Banks.with(InkBank.CURRENT, InkBank.SAVINGS, InkBank.QUILL);
        bank.setLimit(0, 10);
        bank.deposit(0, 600);
        bank.withdraw(0, 5);
        bank.seal(0, 1, 100, 0);
        bank.seal(1, 0, 990, 0);
        undone("open", bank, () -> bank.open(InkBank.VAULT));
        undone("deposit", bank, () -> bank.deposit(0, 1));
        undone("withdraw", bank, () -> bank.withdraw(0, 1));
        undone("setLimit", bank, () -> bank.setLimit(2, 1));
        undone("seal", bank, () -> bank.seal(0, 1, 1, 1));
        undone("cancel", bank, () -> bank.cancel(0));
        undone("endDays", bank, () -> bank.endDays(60));
        undone("execute", bank, () -> Banks.run(bank, "draw 0 5;void 0;wait 2"));
        Check.same("the next id is undone too", bank.seal(0, 1, 1, 1), 2);
    }

    private static void onlyTheLastEight() {
        InkBank bank = Banks.with(InkBank.QUILL);
        Check.same("undo the only one", bank.undo(), 0);
        Check.fails("undo of none", STATE, bank::undo);
        bank.open(InkBank.QUILL);
        for (int i = 0; i < 12; i++) {
            bank.deposit(0, 1);
        }
        for (int left = 7; left >= 0; left--) {
            Check.same("undo", bank.undo(), left);
            Check.same("balance", bank.balanceOf(0), 4 + left);
        }
        Check.fails("undo of the ninth", STATE, bank::undo);
        Check.same("balance", bank.balanceOf(0), 4);
        bank.deposit(0, 100);
        bank.deposit(0, 1);
        Check.same("undo", bank.undo(), 1);
        Check.same("undo", bank.undo(), 0);
        Check.same("balance", bank.balanceOf(0), 4);
    }

    private static void failuresAreNone() {
        InkBank bank = Banks.with(InkBank.SAVINGS);
        Check.fails("open", IllegalArgumentException.class, () -> bank.open(9));
        Check.fails("deposit", IllegalArgumentException.class, () -> bank.deposit(0, 0));
        Check.fails("withdraw", STATE, () -> bank.withdraw(0, 1));
        Check.fails("setLimit", UnsupportedOperationException.class, () -> bank.setLimit(0, 1));
        Check.fails("seal", IllegalArgumentException.class, () -> bank.seal(0, 0, 1, 1));
        Check.fails("cancel", java.util.NoSuchElementException.class, () -> bank.cancel(0));
        Check.fails("endDays", IllegalArgumentException.class, () -> bank.endDays(0));
        Check.fails("execute", STATE, () -> Banks.run(bank, "wait 0"));
        bank.balanceAfter(0, 60);
        bank.save();
        bank.writeStatement(0);
        bank.type('p');
        Check.same("only open was one", bank.undo(), 0);
    }

    private static void notAffected() {
        InkBank bank = Banks.with(InkBank.CURRENT);
        bank.save();
        Check.fails("malformed", IllegalArgumentException.class, () -> Banks.run(bank, "wait"));
        Check.fails("failing", STATE, () -> Banks.run(bank, "wait 1;wait 0"));
        bank.deposit(0, 12);
        bank.writeStatement(0);
        Banks.type(bank, "wait");
        bank.undo();
        keptAside(bank, 5);
        bank.restore();
        keptAside(bank, 6);
    }

    private static void keptAside(InkBank bank, int typed) {
        Check.same("statement", bank.statementAt(4), '2');
        Check.same("errorPosition", bank.errorPosition(), 4);
        Check.same("failedCommand", bank.failedCommand(), 1);
        Check.same("buffer", bank.type(' '), typed);
    }

    private static void openingAgain() {
        InkBank bank = new InkBank();
        bank.save();
        bank.open(InkBank.CURRENT);
        bank.setLimit(0, 10);
        bank.deposit(0, 5);
        bank.withdraw(0, 1);
        bank.restore();
        bank.open(InkBank.VAULT);
        Check.same("a fresh account", Banks.statement(bank, 0), "V0:0/0");
    }

    private static void snapshots() {
        InkBank bank = Banks.with(InkBank.CURRENT, InkBank.VAULT);
        Check.fails("restore of none", STATE, bank::restore);
        bank.deposit(0, 300);
        bank.withdraw(0, 7);
        bank.seal(0, 1, 40, 1);
        bank.endDays(3);
        bank.seal(0, 1, 50, 9);
        String saved = Banks.state(bank);
        Check.same("save", bank.save(), 3);
        Check.same("save changes nothing", Banks.state(bank), saved);
        bank.endDays(20);
        bank.open(InkBank.QUILL);
        Check.same("restore", bank.restore(), 3);
        Check.same("restored", Banks.state(bank), saved);
        Check.fails("nothing to undo", STATE, bank::undo);
        bank.cancel(1);
        Check.same("undo after restore", bank.undo(), 0);
        Check.same("undone", Banks.state(bank), saved);
        bank.deposit(1, 5);
        Check.same("restore again", bank.restore(), 3);
        Check.same("the snapshot is kept", Banks.state(bank), saved);
        bank.endDays(1);
        Check.same("save later", bank.save(), 4);
        bank.endDays(1);
        Check.same("the later one replaces", bank.restore(), 4);
    }

    private static void snapshotAndUndo() {
        InkBank bank = Banks.with(InkBank.QUILL);
        bank.deposit(0, 5);
        bank.save();
        Check.same("undo", bank.undo(), 1);
        Check.same("undone", bank.balanceOf(0), 0);
        bank.restore();
        Check.same("undo leaves the snapshot", bank.balanceOf(0), 5);
    }
}
