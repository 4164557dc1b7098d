/** Promises 43 to 46: the buffer and programs of commands. */
public final class CommandsTest {
    private static final Class<?> ARGUMENT = IllegalArgumentException.class;
    private static final Class<?> STATE = IllegalStateException.class;

    public static void main(String[] args) {
        typing();
        commands();
        malformed();
        failing();
        allOrNone();
        oneModification();
        storedPositions();
        Check.finish("CommandsTest");
    }

    private static void typing() {
        InkBank bank = new InkBank();
        for (char wrong : new char[] {0, 31, 127, 255, 256, Character.MAX_VALUE}) {
            Check.fails("type " + (int) wrong, ARGUMENT, () -> bank.type(wrong));
        }
        Check.same("type 32", bank.type((char) 32), 1);
        Check.same("type 126", bank.type((char) 126), 2);
        for (int length = 3; length <= 60; length++) {
            Check.same("type", bank.type('p'), length);
        }
        Check.fails("full", STATE, () -> bank.type('p'));
        Check.fails("full and wrong", ARGUMENT, () -> bank.type((char) 127));
        Check.fails("execute", ARGUMENT, bank::execute);
        Check.same("emptied", bank.type('p'), 1);
    }

    private static void commands() {
        InkBank bank = Banks.with(InkBank.CURRENT, InkBank.SAVINGS);
        Check.same("pay", Banks.run(bank, "pay 1 100"), 1);
        Check.same("paid", bank.balanceOf(1), 100);
        Check.same("limit", Banks.run(bank, "limit 0 50"), 1);
        Check.same("limited", bank.limitOf(0), 50);
        Check.same("draw", Banks.run(bank, "draw 0 5"), 1);
        Check.same("drawn", Banks.statement(bank, 0), "C0:-5/50*");
        Check.same("send", Banks.run(bank, "send 10 20 0;send 01 003 60;send 01 4 59"), 3);
        Check.same("sent", Banks.transfers(bank), "0:1>0 20 in 0, 2:0>1 4 in 59, 1:0>1 3 in 60");
        Check.same("void", Banks.run(bank, "void 2"), 1);
        Check.same("voided", Banks.transfers(bank), "0:1>0 20 in 0, 1:0>1 3 in 60");
        Check.same("void another", Banks.run(bank, "void 1"), 1);
        Check.same("voided another", Banks.transfers(bank), "0:1>0 20 in 0");
        Check.same("wait", Banks.run(bank, "wait 2"), 1);
        Check.same("waited", bank.day(), 2);
        Check.same("moved", bank.balanceOf(0), 15);
        Check.same("eight commands", Banks.run(bank, "wait 1;wait 1;wait 1;wait 1;wait 1;wait 1;wait 1;wait 01"), 8);
        Check.same("ten days", bank.day(), 10);
        Check.same("60 characters", Banks.run(bank, "limit 0 100;limit 0 101;limit 0 102;send 01 001 060;pay 0 99"), 5);
        Check.same("all of them", Banks.statement(bank, 0), "C0:114/102");
    }

    private static void malformedAt(String text, int position) {
        InkBank bank = Banks.with(InkBank.CURRENT, InkBank.SAVINGS);
        String before = Banks.state(bank);
        Check.fails("malformed " + text, ARGUMENT, () -> Banks.run(bank, text));
        Check.same("errorPosition of " + text, bank.errorPosition(), position);
        Check.fails("no command failed", java.util.NoSuchElementException.class, bank::failedCommand);
        Check.same("unchanged by " + text, Banks.state(bank), before);
        Check.same("emptied after " + text, bank.type('x'), 1);
    }

    private static void malformed() {
        malformedAt("", 0);
        malformedAt(" ", 0);
        malformedAt(";", 0);
        malformedAt("x", 0);
        malformedAt("Pay 0 1", 0);
        malformedAt("p", 1);
        malformedAt("pat", 2);
        malformedAt("pay", 3);
        malformedAt("pay0 1", 3);
        malformedAt("pay ", 4);
        malformedAt("pay x", 4);
        malformedAt("pay 0", 5);
        malformedAt("pay 00 1", 5);
        malformedAt("pay 0;", 5);
        malformedAt("pay 0 ", 6);
        malformedAt("pay 0  1", 6);
        malformedAt("pay 0 -1", 6);
        malformedAt("pay 0 1x", 7);
        malformedAt("pay 0 1 ", 7);
        malformedAt("pay 0 1234", 9);
        malformedAt("pay 0 123 ", 9);
        malformedAt("pay 0 1;", 8);
        malformedAt("pay 0 1;;", 8);
        malformedAt("pay 0 1; pay 0 1", 8);
        malformedAt("pay 0 1;pay 0 x", 14);
        malformedAt("draw 0 /", 7);
        malformedAt("draw 0 :", 7);
        malformedAt("drew", 2);
        malformedAt("limit 0 1000", 11);
        malformedAt("limits", 5);
        malformedAt("send 0 1 2 3", 6);
        malformedAt("send 01", 7);
        malformedAt("send 012 3 4", 7);
        malformedAt("send 01 1;", 9);
        malformedAt("send 01 1 ", 10);
        malformedAt("send 01 1234 1", 11);
        malformedAt("send 01 123 1234", 15);
        malformedAt("void", 4);
        malformedAt("void 1 2", 6);
        malformedAt("wait 1 ", 6);
        malformedAt("wait ;", 5);
        malformedAt("pay 0 1;pay 0 1;pay 0 1;pay 0 1;pay 0 1;pay 0 1;pay 0 1;void", 60);
        malformedAt("pay 0 123;pay 0 123;pay 0 123;pay 0 123;pay 0 123;pay 0 123;", 60);
        malformedAt("pay 0 123;pay 0 123;pay 0 123;pay 0 123;pay 0 12;send 01 12 ", 60);
    }

    private static void failsAt(String text, int command) {
        InkBank bank = Banks.with(InkBank.CURRENT, InkBank.SAVINGS);
        bank.deposit(0, 9);
        String before = Banks.state(bank);
        Check.fails("failing " + text, STATE, () -> Banks.run(bank, text));
        Check.same("failedCommand of " + text, bank.failedCommand(), command);
        Check.fails("none malformed", java.util.NoSuchElementException.class, bank::errorPosition);
        Check.same("unchanged by " + text, Banks.state(bank), before);
        Check.same("emptied after " + text, bank.type('x'), 1);
        Check.same("undo after " + text, bank.undo(), 2);
        Check.same("undone after " + text, bank.balanceOf(0), 0);
    }

    private static void failing() {
        failsAt("pay 2 1", 0);
        failsAt("pay 0 0", 0);
        failsAt("draw 0 10", 0);
        failsAt("draw 9 1", 0);
        failsAt("draw 0 000", 0);
        failsAt("limit 0 501", 0);
        failsAt("limit 1 0", 0);
        failsAt("send 00 1 1", 0);
        failsAt("send 02 1 1", 0);
        failsAt("send 01 0 1", 0);
        failsAt("send 01 1 61", 0);
        failsAt("void 0", 0);
        failsAt("wait 0", 0);
        failsAt("wait 61", 0);
        failsAt("pay 0 1;draw 0 11", 1);
        failsAt("pay 0 1;draw 0 10;draw 0 1;wait 0", 2);
        failsAt("send 01 1 0;wait 1;void 0", 2);
        failsAt("limit 0 10;draw 0 19;limit 0 9", 2);
    }

    private static void allOrNone() {
        InkBank bank = Banks.with(InkBank.CURRENT, InkBank.SAVINGS);
        bank.deposit(0, 200);
        bank.seal(0, 1, 50, 0);
        Check.fails("fails at the end", STATE, () -> Banks.run(bank, "pay 1 7;send 10 5 3;wait 1;draw 0 1;void 9"));
        Check.same("no day ended", bank.day(), 0);
        Check.same("next id", bank.seal(1, 0, 1, 1), 1);
        Check.same("journal", Banks.journal(bank), "d200@0");
        Check.same("untouched", bank.wasTouched(0), false);
        Check.same("later commands see earlier ones", Banks.run(bank, "pay 1 7;draw 1 7;send 10 9 2;void 2"), 4);
        Check.same("the id is used up", bank.seal(1, 0, 1, 1), 3);
    }

    private static void oneModification() {
        InkBank bank = Banks.with(InkBank.CURRENT, InkBank.SAVINGS);
        String before = Banks.state(bank);
        Banks.run(bank, "pay 0 7;pay 1 8;wait 3;pay 0 1;send 01 4 4");
        Check.same("undo", bank.undo(), 2);
        Check.same("undone as a whole", Banks.state(bank), before);
    }

    private static void storedPositions() {
        InkBank bank = Banks.with(InkBank.CURRENT);
        Check.fails("malformed", ARGUMENT, () -> Banks.run(bank, "pay"));
        Check.fails("failing", STATE, () -> Banks.run(bank, "pay 0 1;pay 1 1"));
        Banks.run(bank, "pay 0 1");
        Check.same("errorPosition stays", bank.errorPosition(), 3);
        Check.same("failedCommand stays", bank.failedCommand(), 1);
        Check.fails("malformed again", ARGUMENT, () -> Banks.run(bank, "pay 1 1;"));
        Check.same("errorPosition of the last", bank.errorPosition(), 8);
        Check.same("failedCommand stays", bank.failedCommand(), 1);
        Check.fails("failing again", STATE, () -> Banks.run(bank, "pay 1 1"));
        Check.same("failedCommand of the last", bank.failedCommand(), 0);
    }
}
