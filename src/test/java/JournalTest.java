import java.util.NoSuchElementException;

/** Promises 37 to 42: the journal and the statement. */
public final class JournalTest {
    private static final Class<?> ELEMENT = NoSuchElementException.class;
    private static final Class<?> INDEX = IndexOutOfBoundsException.class;

    public static void main(String[] args) {
        movements();
        noMovements();
        onlyTheLatestTen();
        statements();
        Check.finish("JournalTest");
    }

    private static void movements() {
        InkBank bank = Banks.with(InkBank.VAULT, InkBank.CURRENT, InkBank.QUILL);
        bank.setLimit(1, 99);
        bank.deposit(0, 300);
        bank.withdraw(1, 60);
        bank.seal(0, 2, 100, 0);
        bank.seal(1, 0, 77, 0);
        bank.endDays(1);
        bank.endDays(1);
        // The fee of 3 brings account 1 to -63, so that its charge is 2.
        Check.same("journal", Banks.journal(bank), "c2@1 i10@0 c2@1 f3@1 t100@0 w60@1 d300@0");
        Check.same("journalLength", bank.journalLength(), 7);
    }

    private static void noMovements() {
        InkBank bank = Banks.with(InkBank.QUILL, InkBank.CURRENT, InkBank.SAVINGS);
        bank.deposit(2, 99);
        bank.setLimit(0, 5);
        bank.withdraw(0, 5);
        bank.seal(0, 1, 1, 0);
        bank.endDays(3);
        Check.same("movements of no drop are none", Banks.journal(bank), "w5@0 d99@2");
        Check.same("though it bounced", bank.bounceCount(), 1);
    }

    private static void onlyTheLatestTen() {
        InkBank bank = Banks.with(InkBank.QUILL, InkBank.QUILL);
        Check.same("empty", bank.journalLength(), 0);
        for (int amount = 1; amount <= 23; amount++) {
            bank.deposit(amount % 2, amount);
            Check.same("length", bank.journalLength(), Math.min(amount, 10));
            Check.same("latest", bank.movementAmount(0), amount);
            Check.same("account", bank.movementAccount(0), amount % 2);
            Check.same("kind", bank.movementKind(0), 'd');
        }
        Check.same("oldest", bank.movementAmount(9), 14);
        String full = Banks.journal(bank);
        bank.save();
        for (int i = 0; i < 4; i++) {
            bank.deposit(0, 100);
        }
        for (int i = 0; i < 4; i++) {
            bank.undo();
        }
        Check.same("undone", Banks.journal(bank), full);
        bank.endDays(1);
        for (int i = 0; i < 12; i++) {
            bank.deposit(0, 100);
        }
        bank.restore();
        Check.same("restored", Banks.journal(bank), full);
        for (int wrong : new int[] {10, -1, Integer.MIN_VALUE, Integer.MAX_VALUE}) {
            Check.fails("movementKind", ELEMENT, () -> bank.movementKind(wrong));
            Check.fails("movementAmount", ELEMENT, () -> bank.movementAmount(wrong));
            Check.fails("movementAccount", ELEMENT, () -> bank.movementAccount(wrong));
        }
    }

    private static void statements() {
        InkBank bank = Banks.with(InkBank.CURRENT, InkBank.SAVINGS, InkBank.CURRENT, InkBank.QUILL, InkBank.VAULT);
        bank.setLimit(2, 50);
        bank.withdraw(2, 35);
        Check.same("as in the document", Banks.statement(bank, 2), "C2:-35/50*");
        Check.same("savings", Banks.statement(bank, 1), "S1:0/0");
        bank.setLimit(3, 500);
        Check.same("quill", Banks.statement(bank, 3), "Q3:0/500");
        bank.deposit(4, 120);
        bank.withdraw(4, 1);
        Check.same("vault", Banks.statement(bank, 4), "V4:119/0*");
        Check.same("length", bank.writeStatement(4), 9);
        for (int wrong : new int[] {5, 8, -1, Integer.MIN_VALUE, Integer.MAX_VALUE}) {
            Check.fails("writeStatement", INDEX, () -> bank.writeStatement(wrong));
        }
        for (int wrong : new int[] {9, -1, Integer.MIN_VALUE, Integer.MAX_VALUE}) {
            Check.fails("statementAt", INDEX, () -> bank.statementAt(wrong));
        }
        bank.deposit(4, 1);
        Check.same("as it was written", bank.statementAt(5), '9');
        bank.endDays(1);
        Check.same("untouched", Banks.statement(bank, 4), "V4:120/0");
        Banks.fill(bank, 0, 9999);
        bank.endDays(1);
        Check.same("five digits", Banks.statement(bank, 0), "C0:10098/0");
    }
}
