import java.util.NoSuchElementException;
import java.util.function.IntSupplier;

/** What several tests do with a bank. */
final class Banks {
    private Banks() {
    }

    /** Returns a bank with one account of each of these kinds. */
    static InkBank with(int... kinds) {
        InkBank bank = new InkBank();
        for (int kind : kinds) {
            bank.open(kind);
        }
        return bank;
    }

    /** Deposits more than one deposit may bring. */
    static void fill(InkBank bank, int account, int drops) {
        for (int left = drops; left > 0; left -= 999) {
            bank.deposit(account, Math.min(left, 999));
        }
    }

    static void type(InkBank bank, String text) {
        for (char character : text.toCharArray()) {
            bank.type(character);
        }
    }

    static int run(InkBank bank, String program) {
        type(bank, program);
        return bank.execute();
    }

    static String statement(InkBank bank, int account) {
        StringBuilder text = new StringBuilder();
        int length = bank.writeStatement(account);
        for (int i = 0; i < length; i++) {
            text.append(bank.statementAt(i));
        }
        return text.toString();
    }

    /** Returns the journal, the latest movement first, as in "d100@0 i1@0". */
    static String journal(InkBank bank) {
        StringBuilder text = new StringBuilder();
        for (int i = 0; i < bank.journalLength(); i++) {
            text.append(i == 0 ? "" : " ").append(bank.movementKind(i)).append(bank.movementAmount(i))
                .append('@').append(bank.movementAccount(i));
        }
        return text.toString();
    }

    /** Returns the sealed transfers in their order, as in "0:0>1 200 in 3". */
    static String transfers(InkBank bank) {
        StringBuilder text = new StringBuilder();
        for (int i = 0; i < bank.transferCount(); i++) {
            int id = bank.transferAt(i);
            text.append(i == 0 ? "" : ", ").append(id).append(':').append(bank.senderOf(id)).append('>')
                .append(bank.receiverOf(id)).append(' ').append(bank.amountOf(id)).append(" in ")
                .append(bank.daysUntilDue(id));
        }
        return text.toString();
    }

    /** Returns the answers of all calls that change nothing and ask of what undo brings back. */
    static String state(InkBank bank) {
        StringBuilder text = new StringBuilder();
        text.append("day ").append(bank.day()).append(" bank ").append(bank.bankBalance())
            .append(" ink ").append(bank.totalInk()).append('=').append(bank.totalInkByMovements())
            .append(" sums ").append(bank.transferredInk()).append(' ').append(bank.interestPaid())
            .append(' ').append(bank.chargesPaid()).append(' ').append(bank.bounceCount()).append('\n');
        for (int account = 0; account < bank.accountCount(); account++) {
            text.append(bank.kindOf(account)).append(':').append(bank.balanceOf(account)).append('/')
                .append(bank.limitOf(account)).append(' ').append(bank.availableIn(account)).append(' ')
                .append(bank.wasTouched(account)).append(' ').append(bank.interestOf(account)).append(" net ")
                .append(bank.netOf(account)).append(" rank ").append(bank.accountAtRank(account)).append('\n');
        }
        return text.append(transfers(bank)).append('\n').append(journal(bank)).toString();
    }

    /** Returns the state and what undo and restore leave alone, but for the buffer, which can't be asked. */
    static String all(InkBank bank) {
        StringBuilder text = new StringBuilder(state(bank));
        text.append('\n').append(bank.accountCount()).append(' ').append(written(bank));
        text.append(' ').append(numberOr(bank::errorPosition)).append(' ').append(numberOr(bank::failedCommand));
        return text.toString();
    }

    /** Returns the statement that was written last. */
    static String written(InkBank bank) {
        StringBuilder text = new StringBuilder();
        try {
            while (text.length() < 100) {
                text.append(bank.statementAt(text.length()));
            }
        } catch (IndexOutOfBoundsException end) {
            return text.toString();
        }
        return "without end: " + text;
    }

    private static String numberOr(IntSupplier call) {
        try {
            return "" + call.getAsInt();
        } catch (NoSuchElementException none) {
            return "none";
        }
    }
}
