import java.util.function.Consumer;

/** Promises 47 to 49 and what the chapter 'Terms' says of undo and exceptions, sentence by sentence. */
public final class Promises47To49Test extends Promises {
    public static void main(String[] args) throws IllegalAccessException {
        Check.runAll(Promises47To49Test.class);
    }

    /** Returns a bank of which all that undo brings back is different from a new one's, after nine modifications. */
    private static InkBank busy() {
        InkBank bank = with(CURRENT, VAULT, QUILL);
        bank.setLimit(0, 90);
        bank.deposit(1, 400);
        bank.withdraw(0, 30);
        bank.seal(1, 2, 100, 0);
        bank.seal(2, 0, 999, 0);
        bank.endDays(1);
        bank.withdraw(0, 7);
        bank.seal(0, 1, 5, 9);
        return bank;
    }

    /** Checks that a change is one modification and that undo takes back all of it. */
    private static void oneModification(Runnable change, InkBank bank) {
        String before = Banks.all(bank);
        change.run();
        same("it changes something", Banks.all(bank).equals(before), false);
        same("undo", bank.undo(), 7);
        same("all", Banks.all(bank), before);
    }

    /** Checks that a call is no modification: what is undone is the deposit before it. */
    private static void noModification(String what, Consumer<InkBank> call) {
        InkBank bank = busy();
        String before = Banks.state(bank);
        bank.deposit(1, 1);
        call.accept(bank);
        same("undo after " + what, bank.undo(), 7);
        same("state after " + what, Banks.state(bank), before);
    }

    // ---- "The successful calls of ... are modifications."

    static void termsUndo_open() {
        InkBank bank = busy();
        oneModification(() -> bank.open(SAVINGS), bank);
    }

    static void termsUndo_deposit() {
        InkBank bank = busy();
        oneModification(() -> bank.deposit(0, 999), bank);
    }

    static void termsUndo_withdraw() {
        InkBank bank = busy();
        oneModification(() -> bank.withdraw(1, 1), bank);
    }

    static void termsUndo_setLimit() {
        InkBank bank = busy();
        oneModification(() -> bank.setLimit(2, 1), bank);
    }

    static void termsUndo_setLimitToTheSame() {
        InkBank bank = busy();
        String before = Banks.all(bank);
        bank.setLimit(0, 90);
        same("undo", bank.undo(), 7);
        same("nothing but that is undone", Banks.all(bank), before);
    }

    static void termsUndo_seal() {
        InkBank bank = busy();
        oneModification(() -> bank.seal(0, 1, 1, 1), bank);
    }

    static void termsUndo_cancel() {
        InkBank bank = busy();
        oneModification(() -> bank.cancel(2), bank);
    }

    static void termsUndo_endDays() {
        InkBank bank = busy();
        oneModification(() -> bank.endDays(1), bank);
        InkBank long60 = busy();
        oneModification(() -> long60.endDays(60), long60);
    }

    static void termsUndo_execute() {
        InkBank bank = busy();
        oneModification(() -> Banks.run(bank, "pay 0 5"), bank);
        InkBank many = busy();
        oneModification(() -> Banks.run(many, "pay 0 5;draw 1 1;limit 2 9;send 12 3 4;void 2;wait 60"), many);
    }

    static void termsUndo_nothingElse() {
        noModification("save", bank -> bank.save());
        noModification("type", bank -> bank.type('x'));
        noModification("writeStatement", bank -> bank.writeStatement(0));
        noModification("balanceAfter", bank -> bank.balanceAfter(0, 60));
        noModification("wouldBounce", bank -> bank.wouldBounce(2));
        noModification("netByTable", bank -> bank.netByTable(0));
        noModification("leadsTo", bank -> bank.leadsTo(0, 1));
    }

    static void termsUndo_noRefusedCall() {
        noModification("open", bank -> Check.fails("open", ARGUMENT, () -> bank.open(4)));
        noModification("deposit", bank -> Check.fails("deposit", ARGUMENT, () -> bank.deposit(0, 0)));
        noModification("withdraw", bank -> Check.fails("withdraw", STATE, () -> bank.withdraw(0, 999)));
        noModification("setLimit", bank -> Check.fails("setLimit", UNSUPPORTED, () -> bank.setLimit(1, 0)));
        noModification("seal", bank -> Check.fails("seal", INDEX, () -> bank.seal(0, 3, 1, 1)));
        noModification("cancel", bank -> Check.fails("cancel", ELEMENT, () -> bank.cancel(3)));
        noModification("endDays", bank -> Check.fails("endDays", ARGUMENT, () -> bank.endDays(61)));
        noModification("malformed", bank -> Check.fails("execute", ARGUMENT, () -> Banks.run(bank, "wait 1;")));
        noModification("failing", bank -> Check.fails("execute", STATE, () -> Banks.run(bank, "wait 1;wait 0")));
        noModification("restore", bank -> Check.fails("restore", STATE, bank::restore));
    }

    // ---- "The last 8 of them can be undone."

    static void termsUndo_theLastEight() {
        InkBank bank = with(QUILL);
        for (int i = 0; i < 8; i++) {
            bank.deposit(0, 1);
        }
        for (int left = 7; left >= 0; left--) {
            same("undo", bank.undo(), left);
            same("balance", bank.balanceOf(0), left);
        }
        refused("undo of open, the ninth", bank, STATE, bank::undo);
        same("accountCount", bank.accountCount(), 1);
    }

    static void termsUndo_aRefusedCallTakesNoPlaceAmongTheEight() {
        InkBank bank = with(QUILL);
        for (int i = 0; i < 7; i++) {
            bank.deposit(0, 1);
        }
        for (int i = 0; i < 3; i++) {
            Check.fails("deposit", ARGUMENT, () -> bank.deposit(0, 0));
            Check.fails("withdraw", STATE, () -> bank.withdraw(0, 99));
            Check.fails("execute", STATE, () -> Banks.run(bank, "wait 0"));
        }
        for (int left = 7; left >= 0; left--) {
            same("undo", bank.undo(), left);
        }
        same("the eighth was open", bank.accountCount(), 0);
    }

    // ---- "The buffer, the error position, the failed command and the statement are not affected ..."

    /** Checks that a way back from a deposit leaves alone what is no part of the state. */
    private static void asidesStay(Consumer<InkBank> back) {
        InkBank bank = with(CURRENT);
        bank.save();
        Check.fails("malformed", ARGUMENT, () -> Banks.run(bank, "wait"));
        Check.fails("failing", STATE, () -> Banks.run(bank, "wait 1;wait 0"));
        bank.deposit(0, 12);
        bank.writeStatement(0);
        Banks.type(bank, "wait");
        back.accept(bank);
        same("balance", bank.balanceOf(0), 0);
        same("statement", Banks.written(bank), "C0:12/0");
        same("errorPosition", bank.errorPosition(), 4);
        same("failedCommand", bank.failedCommand(), 1);
        same("buffer", bank.type(' '), 5);
        bank.type('3');
        same("buffer as a program", bank.execute(), 1);
        same("day", bank.day(), 3);
    }

    static void termsUndo_asidesStayAtUndo() {
        asidesStay(InkBank::undo);
    }

    static void termsUndo_asidesStayAtRestore() {
        asidesStay(InkBank::restore);
    }

    /** Checks that a way back does not forget what came after the state to which it leads. */
    private static void asidesAreTheLatest(Consumer<InkBank> back) {
        InkBank bank = with(CURRENT);
        Check.fails("malformed", ARGUMENT, () -> Banks.run(bank, "wait"));
        Check.fails("failing", STATE, () -> Banks.run(bank, "wait 1;wait 0"));
        bank.writeStatement(0);
        bank.save();
        bank.deposit(0, 12);
        Check.fails("malformed again", ARGUMENT, () -> Banks.run(bank, "x"));
        Check.fails("failing again", STATE, () -> Banks.run(bank, "wait 0"));
        bank.writeStatement(0);
        back.accept(bank);
        same("statement", Banks.written(bank), "C0:12/0");
        same("errorPosition", bank.errorPosition(), 0);
        same("failedCommand", bank.failedCommand(), 0);
    }

    static void termsUndo_laterAsidesStayAtUndo() {
        asidesAreTheLatest(InkBank::undo);
    }

    static void termsUndo_laterAsidesStayAtRestore() {
        asidesAreTheLatest(InkBank::restore);
    }

    static void termsUndo_anExecutedProgramIsNotTypedAgain() {
        InkBank bank = with(CURRENT);
        Banks.run(bank, "pay 0 5");
        bank.undo();
        same("characters", bank.type('x'), 1);
    }

    // ---- "... everything else is, including the id that is given next."

    static void termsUndo_theNextIdToo() {
        InkBank bank = busy();
        same("sealed", bank.seal(0, 1, 1, 1), 3);
        bank.undo();
        same("after undo", bank.seal(0, 1, 1, 1), 3);
        Banks.run(bank, "send 01 1 1;send 01 1 1");
        bank.undo();
        same("after undo of a program", bank.seal(0, 1, 1, 1), 4);
    }

    static void termsUndo_theNextIdTooAtRestore() {
        InkBank bank = busy();
        bank.save();
        same("sealed", bank.seal(0, 1, 1, 1), 3);
        bank.restore();
        same("after restore", bank.seal(0, 1, 1, 1), 3);
    }

    // ---- "A method that throws an exception changes nothing, except that execute empties the buffer."

    static void termsExceptions_executeAloneEmptiesTheBuffer() {
        InkBank bank = with(QUILL);
        Banks.type(bank, "wait 0");
        refused("open", bank, ARGUMENT, () -> bank.open(4));
        refused("type", bank, ARGUMENT, () -> bank.type((char) 31));
        refused("restore", bank, STATE, bank::restore);
        refused("cancel", bank, ELEMENT, () -> bank.cancel(99));
        same("characters", bank.type('1'), 7);
        String before = Banks.state(bank);
        Check.fails("execute", ARGUMENT, () -> Banks.run(bank, ";"));
        same("state", Banks.state(bank), before);
        same("characters", bank.type('1'), 1);
    }

    // ---- Promise 47: undo

    static void promise47_returnsTheModificationsLeft() {
        InkBank bank = with(QUILL, QUILL, QUILL);
        same("undo", bank.undo(), 2);
        same("undo", bank.undo(), 1);
        bank.open(VAULT);
        same("undo", bank.undo(), 1);
        same("undo", bank.undo(), 0);
        refused("undo", bank, STATE, bank::undo);
    }

    static void promise47_theLastModificationFirst() {
        InkBank bank = with(QUILL);
        bank.deposit(0, 1);
        bank.deposit(0, 2);
        bank.deposit(0, 4);
        bank.undo();
        same("4 undone", bank.balanceOf(0), 3);
        bank.deposit(0, 8);
        bank.undo();
        same("8 undone", bank.balanceOf(0), 3);
        bank.undo();
        same("2 undone", bank.balanceOf(0), 1);
    }

    static void promise47_roundAndRound() {
        InkBank bank = with(QUILL);
        for (int i = 1; i <= 13; i++) {
            bank.deposit(0, i);
            bank.deposit(0, 100);
            bank.undo();
        }
        same("balance", bank.balanceOf(0), 91);
        // Each deposit of 100 was the eighth that could be undone, and took the place of the oldest.
        for (int left = 6; left >= 0; left--) {
            same("undo", bank.undo(), left);
        }
        same("balance after 1 to 6", bank.balanceOf(0), 21);
        refused("undo", bank, STATE, bank::undo);
    }

    static void promise47_none() {
        InkBank bank = new InkBank();
        refused("at first", bank, STATE, bank::undo);
        bank.save();
        bank.type('x');
        refused("still none", bank, STATE, bank::undo);
        bank.open(QUILL);
        bank.undo();
        refused("all undone", bank, STATE, bank::undo);
        bank.restore();
        refused("restored", bank, STATE, bank::undo);
        same("accountCount", bank.accountCount(), 0);
    }

    static void promise47_undoIsNoModification() {
        InkBank bank = with(QUILL);
        bank.deposit(0, 5);
        bank.undo();
        same("undo again", bank.undo(), 0);
        same("accountCount", bank.accountCount(), 0);
    }

    // ---- Promise 48: save

    static void promise48_returnsTheDay() {
        InkBank bank = busy();
        same("day 1", bank.save(), 1);
        bank.endDays(60);
        same("day 61", bank.save(), 61);
    }

    static void promise48_changesNothingElse() {
        InkBank bank = busy();
        String before = Banks.all(bank);
        bank.save();
        same("all", Banks.all(bank), before);
        same("undo", bank.undo(), 7);
    }

    static void promise48_replacesTheEarlierOne() {
        InkBank bank = with(QUILL);
        bank.deposit(0, 1);
        bank.save();
        bank.deposit(0, 2);
        bank.save();
        bank.deposit(0, 4);
        bank.restore();
        same("balance", bank.balanceOf(0), 3);
    }

    static void promise48_ofANewBank() {
        InkBank bank = new InkBank();
        same("save", bank.save(), 0);
        bank.open(QUILL);
        bank.endDays(3);
        same("restore", bank.restore(), 0);
        same("all", Banks.all(bank), Banks.all(new InkBank()));
    }

    static void promise48_undoDoesNotTouchTheSnapshot() {
        InkBank bank = with(QUILL);
        bank.deposit(0, 5);
        bank.save();
        bank.undo();
        same("undone", bank.balanceOf(0), 0);
        bank.restore();
        same("restored", bank.balanceOf(0), 5);
    }

    // ---- Promise 49: restore

    static void promise49_restoresAll() {
        InkBank bank = busy();
        String saved = Banks.all(bank);
        bank.save();
        bank.open(SAVINGS);
        bank.deposit(1, 3);
        bank.withdraw(1, 2);
        bank.setLimit(2, 77);
        bank.seal(1, 2, 11, 0);
        bank.seal(0, 1, 999, 0);
        bank.cancel(2);
        bank.endDays(4);
        same("the day of the snapshot", bank.restore(), 1);
        same("all", Banks.all(bank), saved);
    }

    static void promise49_isKept() {
        InkBank bank = busy();
        String saved = Banks.all(bank);
        bank.save();
        for (int i = 0; i < 3; i++) {
            bank.deposit(0, 100);
            bank.endDays(2);
            same("restore", bank.restore(), 1);
            same("all", Banks.all(bank), saved);
        }
    }

    static void promise49_afterwardsNothingCanBeUndone() {
        InkBank bank = busy();
        bank.save();
        bank.restore();
        refused("undo", bank, STATE, bank::undo);
        bank.deposit(0, 1);
        same("undo of what came after", bank.undo(), 0);
        refused("undo of more", bank, STATE, bank::undo);
    }

    static void promise49_noSnapshot() {
        InkBank bank = busy();
        refused("restore", bank, STATE, bank::restore);
        same("undo", bank.undo(), 7);
        InkBank fresh = new InkBank();
        refused("restore of a new one", fresh, STATE, fresh::restore);
    }
}
