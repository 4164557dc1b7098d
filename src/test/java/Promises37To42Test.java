/** Promises 37 to 42, sentence by sentence: the journal and the statement. */
public final class Promises37To42Test extends Promises {
    public static void main(String[] args) throws IllegalAccessException {
        Check.runAll(Promises37To42Test.class);
    }

    /** Checks that a question is refused for each movement that the journal doesn't have. */
    private static void refusedForNoMovement(Question question) {
        refused("an empty journal", () -> with(QUILL), ELEMENT, bank -> question.ask(bank, 0));
        for (int movements : new int[] {2, 10, 14}) {
            int length = Math.min(movements, 10);
            for (int recency : outside(length)) {
                refused("recency " + recency, () -> withMovements(movements), ELEMENT, bank -> question.ask(bank, recency));
            }
            same("the oldest", question.ask(withMovements(movements), length - 1) != null, true);
        }
    }

    private static InkBank withMovements(int movements) {
        InkBank bank = with(QUILL);
        for (int i = 0; i < movements; i++) {
            bank.deposit(0, 5);
        }
        return bank;
    }

    // ---- Promise 37: journalLength

    static void promise37_from0To10() {
        InkBank bank = with(QUILL);
        same("at first", bank.journalLength(), 0);
        for (int movements = 1; movements <= 22; movements++) {
            bank.deposit(0, 1);
            same("journalLength", bank.journalLength(), Math.min(movements, 10));
        }
        bank.undo();
        same("one undone", bank.journalLength(), 10);
    }

    static void promise37_ofOneLongDay() {
        InkBank bank = with(1, 1, 1, 1, 1, 1, 1, 1);
        for (int account = 0; account < 8; account++) {
            bank.deposit(account, 100 + account * 100);
        }
        bank.endDays(2);
        same("journalLength", bank.journalLength(), 10);
        same("journal", Banks.journal(bank), "i24@7 i21@6 i18@5 i15@4 i12@3 i9@2 i6@1 i3@0 i24@7 i21@6");
    }

    // ---- Promises 38 to 40: movementKind, movementAmount, movementAccount

    private static InkBank withThree() {
        InkBank bank = with(QUILL, QUILL, QUILL);
        bank.deposit(2, 50);
        bank.withdraw(2, 20);
        bank.seal(2, 1, 7, 0);
        bank.endDays(1);
        bank.deposit(0, 3);
        return bank;
    }

    static void promise38_0IsTheLatest() {
        InkBank bank = withThree();
        same("kinds", "" + bank.movementKind(0) + bank.movementKind(1) + bank.movementKind(2) + bank.movementKind(3), "dtwd");
    }

    static void promise38_eachKind() {
        InkBank bank = with(VAULT, QUILL);
        bank.setLimit(1, 50);
        bank.deposit(0, 200);
        same("deposit", bank.movementKind(0), 'd');
        bank.withdraw(1, 10);
        same("withdrawal", bank.movementKind(0), 'w');
        bank.endDays(1);
        same("charge", bank.movementKind(0), 'c');
        same("interest", bank.movementKind(1), 'i');
        bank.deposit(1, 60);
        bank.seal(1, 0, 45, 0);
        bank.seal(0, 1, 999, 0);
        bank.withdraw(0, 1);
        bank.endDays(1);
        same("fee", bank.movementKind(0), 'f');
        same("transfer", bank.movementKind(1), 't');
    }

    static void promise38_noSuchMovement() {
        refusedForNoMovement((bank, recency) -> bank.movementKind(recency));
    }

    static void promise39_0IsTheLatest() {
        InkBank bank = withThree();
        same("amounts", bank.movementAmount(0) + " " + bank.movementAmount(1) + " " + bank.movementAmount(2)
            + " " + bank.movementAmount(3), "3 7 20 50");
    }

    static void promise39_noSuchMovement() {
        refusedForNoMovement((bank, recency) -> bank.movementAmount(recency));
    }

    static void promise40_0IsTheLatest() {
        InkBank bank = withThree();
        same("accounts", "" + bank.movementAccount(0) + bank.movementAccount(1) + bank.movementAccount(2)
            + bank.movementAccount(3), "0222");
    }

    static void promise40_noSuchMovement() {
        refusedForNoMovement((bank, recency) -> bank.movementAccount(recency));
    }

    // ---- Promise 41: writeStatement

    static void promise41_asInTheDocument() {
        InkBank bank = with(SAVINGS, VAULT, CURRENT);
        bank.setLimit(2, 50);
        bank.withdraw(2, 35);
        same("length", bank.writeStatement(2), 10);
        same("statement", Banks.written(bank), "C2:-35/50*");
    }

    static void promise41_theLetterOfTheKind() {
        InkBank bank = with(CURRENT, SAVINGS, QUILL, VAULT);
        same("current", Banks.statement(bank, 0), "C0:0/0");
        same("savings", Banks.statement(bank, 1), "S1:0/0");
        same("quill", Banks.statement(bank, 2), "Q2:0/0");
        same("vault", Banks.statement(bank, 3), "V3:0/0");
    }

    static void promise41_theAccount() {
        InkBank bank = with(0, 0, 0, 0, 0, 0, 0, 0);
        for (int account = 0; account < 8; account++) {
            same("statement", Banks.statement(bank, account), "C" + account + ":0/0");
        }
    }

    static void promise41_theBalanceWithAMinusIfNegative() {
        InkBank bank = with(QUILL);
        bank.setLimit(0, 500);
        bank.withdraw(0, 1);
        bank.endDays(1);
        same("negative", Banks.statement(bank, 0), "Q0:-6/500");
        bank.deposit(0, 6);
        same("0", Banks.statement(bank, 0), "Q0:0/500");
        bank.deposit(0, 1);
        same("positive", Banks.statement(bank, 0), "Q0:1/500");
        bank.withdraw(0, 501);
        same("the least", Banks.statement(bank, 0), "Q0:-500/500*");
    }

    static void promise41_fiveDigits() {
        InkBank bank = holding(VAULT, 9999);
        same("four", Banks.statement(bank, 0), "V0:9999/0");
        bank.endDays(1);
        same("five", Banks.statement(bank, 0), "V0:10494/0");
    }

    static void promise41_aStarIfTouched() {
        InkBank bank = with(SAVINGS);
        bank.deposit(0, 2);
        same("a deposit", Banks.statement(bank, 0), "S0:2/0");
        bank.withdraw(0, 1);
        same("a withdrawal", Banks.statement(bank, 0), "S0:1/0*");
        bank.endDays(1);
        same("a day later", Banks.statement(bank, 0), "S0:1/0");
    }

    static void promise41_inPlaceOfTheOneBefore() {
        InkBank bank = holding(CURRENT, -100);
        bank.open(SAVINGS);
        same("a long one", bank.writeStatement(0), 12);
        same("a short one", bank.writeStatement(1), 6);
        same("written", Banks.written(bank), "S1:0/0");
        refused("nothing behind it", bank, INDEX, () -> bank.statementAt(6));
    }

    static void promise41_noSuchAccount() {
        refusedForNoAccount((bank, account) -> bank.writeStatement(account));
        InkBank bank = with(VAULT, QUILL);
        bank.writeStatement(1);
        refused("account 2", bank, INDEX, () -> bank.writeStatement(2));
        same("the one before stays", Banks.written(bank), "Q1:0/0");
    }

    static void promise41_notForUndo() {
        InkBank bank = with(VAULT, QUILL);
        bank.writeStatement(0);
        same("undo", bank.undo(), 1);
    }

    // ---- Promise 42: statementAt

    static void promise42_emptyAtFirst() {
        InkBank bank = with(VAULT);
        for (int index : outside(0)) {
            refused("index " + index, bank, INDEX, () -> bank.statementAt(index));
        }
    }

    static void promise42_eachCharacter() {
        InkBank bank = with(VAULT);
        bank.deposit(0, 42);
        bank.writeStatement(0);
        same("statementAt", "" + bank.statementAt(0) + bank.statementAt(1) + bank.statementAt(2)
            + bank.statementAt(3) + bank.statementAt(4) + bank.statementAt(5) + bank.statementAt(6), "V0:42/0");
    }

    static void promise42_noSuchCharacter() {
        InkBank bank = with(VAULT);
        int length = bank.writeStatement(0);
        for (int index : outside(length)) {
            refused("index " + index, bank, INDEX, () -> bank.statementAt(index));
        }
        same("the last one", bank.statementAt(length - 1), '0');
    }

    static void promise42_asItWasWritten() {
        InkBank bank = with(VAULT);
        bank.deposit(0, 100);
        bank.writeStatement(0);
        bank.withdraw(0, 1);
        bank.endDays(1);
        same("statement", Banks.written(bank), "V0:100/0");
    }
}
