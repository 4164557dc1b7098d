import java.util.Random;
import java.util.function.Consumer;
import java.util.regex.Matcher;
import java.util.regex.Pattern;

/** Promises 43 to 46 and the commands of the chapter 'Terms', sentence by sentence. */
public final class Promises43To46Test extends Promises {
    private static final Pattern PROGRAM = program();

    public static void main(String[] args) throws IllegalAccessException {
        Check.runAll(Promises43To46Test.class);
    }

    private static Pattern program() {
        String number = "[0-9]{1,3}";
        String command = "(?:(?:pay|draw|limit) [0-9] " + number + "|send [0-9][0-9] " + number + " " + number
            + "|(?:void|wait) " + number + ")";
        return Pattern.compile(command + "(?:;" + command + ")*");
    }

    /** Returns two accounts, both with 100 drops, and a sealed transfer with the id 0. */
    private static InkBank ready() {
        InkBank bank = with(QUILL, SAVINGS);
        bank.deposit(0, 100);
        bank.deposit(1, 100);
        bank.seal(0, 1, 30, 5);
        return bank;
    }

    /** Checks that a program does the same as calls, in one modification, and empties the buffer. */
    private static void does(String program, int commands, Consumer<InkBank> calls) {
        InkBank bank = ready();
        InkBank twin = ready();
        String before = Banks.all(bank);
        calls.accept(twin);
        same(program, Banks.run(bank, program), commands);
        same("all after " + program, Banks.all(bank), Banks.all(twin));
        same("characters after " + program, bank.type('x'), 1);
        same("undo of " + program, bank.undo(), 5);
        same("all after undo of " + program, Banks.all(bank), before);
    }

    /** Checks that a program is malformed at this position and changes nothing but the buffer. */
    private static void malformed(String program, int position) {
        InkBank bank = ready();
        String before = Banks.state(bank);
        Check.fails(program, ARGUMENT, () -> Banks.run(bank, program));
        same("errorPosition of " + program, bank.errorPosition(), position);
        same("state after " + program, Banks.state(bank), before);
        Check.fails("failedCommand after " + program, ELEMENT, bank::failedCommand);
        same("characters after " + program, bank.type('x'), 1);
        same("undo after " + program, bank.undo(), 4);
    }

    /** Checks that a command of a program fails and that the program changes nothing but the buffer. */
    private static void fails(String program, int command) {
        InkBank bank = ready();
        String before = Banks.state(bank);
        Check.fails(program, STATE, () -> Banks.run(bank, program));
        same("failedCommand of " + program, bank.failedCommand(), command);
        same("state after " + program, Banks.state(bank), before);
        Check.fails("errorPosition after " + program, ELEMENT, bank::errorPosition);
        same("characters after " + program, bank.type('x'), 1);
        same("undo after " + program, bank.undo(), 4);
    }

    // ---- "Characters are collected in a buffer of at most 60 characters."

    static void termsCommands_sixtyCharacters() {
        String program = "pay 0 100;pay 0 100;pay 0 100;pay 0 100;pay 0 100;draw 0 100";
        same("length", program.length(), 60);
        does(program, 6, bank -> {
            for (int i = 0; i < 5; i++) {
                bank.deposit(0, 100);
            }
            bank.withdraw(0, 100);
        });
        InkBank bank = ready();
        Banks.type(bank, program);
        refused("one more", bank, STATE, () -> bank.type(';'));
        same("the sixty", bank.execute(), 6);
    }

    // ---- The grammar

    static void termsCommands_pay() {
        does("pay 1 20", 1, bank -> bank.deposit(1, 20));
    }

    static void termsCommands_draw() {
        does("draw 0 20", 1, bank -> bank.withdraw(0, 20));
    }

    static void termsCommands_limit() {
        does("limit 0 20", 1, bank -> bank.setLimit(0, 20));
    }

    static void termsCommands_send() {
        does("send 10 20 3", 1, bank -> bank.seal(1, 0, 20, 3));
        does("send 01 3 20", 1, bank -> bank.seal(0, 1, 3, 20));
    }

    static void termsCommands_void() {
        does("void 0", 1, bank -> bank.cancel(0));
    }

    static void termsCommands_wait() {
        does("wait 20", 1, bank -> bank.endDays(20));
    }

    static void termsCommands_severalWithSemicolonsBetween() {
        does("pay 0 1;draw 1 2", 2, bank -> {
            bank.deposit(0, 1);
            bank.withdraw(1, 2);
        });
        does("limit 0 9;send 01 5 0;void 0;wait 1", 4, bank -> {
            bank.setLimit(0, 9);
            bank.seal(0, 1, 5, 0);
            bank.cancel(0);
            bank.endDays(1);
        });
        malformed(";pay 0 1", 0);
        malformed("pay 0 1;", 8);
        malformed("pay 0 1;;pay 0 1", 8);
        malformed("pay 0 1 ;pay 0 1", 7);
        malformed("pay 0 1; pay 0 1", 8);
        malformed("pay 0 1pay 0 1", 7);
    }

    static void termsCommands_numbersOfOneToThreeDigits() {
        does("pay 0 7", 1, bank -> bank.deposit(0, 7));
        does("pay 0 07", 1, bank -> bank.deposit(0, 7));
        does("pay 0 007", 1, bank -> bank.deposit(0, 7));
        does("pay 0 70", 1, bank -> bank.deposit(0, 70));
        does("pay 0 999", 1, bank -> bank.deposit(0, 999));
        malformed("pay 0 ", 6);
        malformed("pay 0 0007", 9);
        malformed("draw 0 1000", 10);
        malformed("limit 0 1000", 11);
        malformed("send 01 1000 1", 11);
        malformed("send 01 1 0001", 13);
        malformed("void 0000", 8);
        malformed("wait 0001", 8);
        does("send 01 009 060", 1, bank -> bank.seal(0, 1, 9, 60));
        does("void 000", 1, bank -> bank.cancel(0));
        does("wait 060", 1, bank -> bank.endDays(60));
    }

    static void termsCommands_accountsOfOneDigit() {
        malformed("pay 00 1", 5);
        malformed("draw 10 1", 6);
        malformed("limit 00 1", 7);
        malformed("send 0 1 1", 6);
        malformed("send 011 1 1", 7);
        malformed("pay  1", 4);
        malformed("pay x 1", 4);
    }

    // ---- "The error position ... is the index of the first character that cannot continue any program"

    static void termsCommands_errorPositionAtTheFirstWrongCharacter() {
        malformed("x", 0);
        malformed("Pay 0 1", 0);
        malformed(" pay 0 1", 0);
        malformed("0", 0);
        malformed("pxy 0 1", 1);
        malformed("draw 0 /", 7);
        malformed("draw 0 :", 7);
        malformed("draw / 1", 5);
        malformed("draw : 1", 5);
        malformed("pay 0 1x", 7);
        malformed("pay 0 12x", 8);
        malformed("pay 0 123x", 9);
        malformed("pay 0 -1", 6);
        malformed("pay 0  1", 6);
        malformed("limits 0 1", 5);
        malformed("sendd", 4);
        malformed("void0", 4);
        malformed("waiting", 4);
        malformed("wait 1 ", 6);
        malformed("wait 1;wait x;y", 12);
        malformed("pay 0 1;draw 0 1;limit 0 1;send 01 1 1;void 0;wait 1;z", 53);
    }

    // ---- "... or the length of the text if it ends too early."

    static void termsCommands_errorPositionAtTheEnd() {
        for (String command : new String[] {"pay 0 1", "draw 0 1", "limit 0 1", "send 01 1 1", "void 1", "wait 1"}) {
            for (int length = 0; length < command.length(); length++) {
                malformed(command.substring(0, length), length);
                malformed("pay 0 1;" + command.substring(0, length), 8 + length);
            }
        }
        malformed("pay 0 1;pay 0 1;pay 0 1;pay 0 1;pay 0 1;pay 0 1;pay 0 1;void", 60);
        malformed("pay 0 123;pay 0 123;pay 0 123;pay 0 123;pay 0 123;pay 0 123;", 60);
    }

    /** Returns the first index at which a text can't be continued to a program; its length if there is none. */
    private static int positionByPattern(String text) {
        for (int length = 1; length <= text.length(); length++) {
            Matcher matcher = PROGRAM.matcher(text.substring(0, length));
            if (!matcher.matches() && !matcher.hitEnd()) {
                return length - 1;
            }
        }
        return text.length();
    }

    private static String anyText(Random random) {
        String[] commands = {"pay 0 1", "draw 1 23", "limit 2 456", "send 34 5 67", "void 890", "wait 60"};
        StringBuilder text = new StringBuilder(commands[random.nextInt(6)]);
        for (int i = random.nextInt(3); i > 0; i--) {
            text.append(';').append(commands[random.nextInt(6)]);
        }
        String signs = "0123456789 ;padrwvosent";
        for (int i = random.nextInt(3); i > 0 && text.length() > 0; i--) {
            int at = random.nextInt(text.length());
            switch (random.nextInt(4)) {
                case 0:
                    text.deleteCharAt(at);
                    break;
                case 1:
                    text.setLength(at);
                    break;
                case 2:
                    text.insert(at, signs.charAt(random.nextInt(signs.length())));
                    break;
                default:
                    text.setCharAt(at, signs.charAt(random.nextInt(signs.length())));
                    break;
            }
        }
        return text.toString();
    }

    static void termsCommands_errorPositionOfAnyText() {
        Random random = new Random(46);
        for (int i = 0; i < 5000; i++) {
            String text = anyText(random);
            InkBank bank = new InkBank();
            boolean program = PROGRAM.matcher(text).matches();
            // Each program fails, as there are no accounts, or waits for sixty days.
            Class<?> thrown = null;
            try {
                Banks.run(bank, text);
            } catch (RuntimeException exception) {
                thrown = exception.getClass();
            }
            same("malformed: " + text, thrown == ARGUMENT, !program);
            if (thrown == ARGUMENT) {
                same("errorPosition: " + text, bank.errorPosition(), positionByPattern(text));
            }
        }
    }

    // ---- Promise 43: type

    static void promise43_returnsTheNumberOfCharacters() {
        InkBank bank = new InkBank();
        for (int length = 1; length <= 60; length++) {
            same("type", bank.type('p'), length);
        }
    }

    static void promise43_charactersFrom32To126() {
        InkBank bank = new InkBank();
        same("32", bank.type((char) 32), 1);
        same("126", bank.type((char) 126), 2);
        for (int character : new int[] {0, 9, 10, 13, 31, 127, 128, 255, 256, 32 + 256, 65535}) {
            refused("character " + character, bank, ARGUMENT, () -> bank.type((char) character));
        }
        same("the refused ones are not there", bank.type('x'), 3);
    }

    static void promise43_sixtyCharacters() {
        InkBank bank = ready();
        Banks.type(bank, "wait 1;wait 1;wait 1;wait 1;wait 1;wait 1;wait 1;send 01 1 1");
        for (char character : new char[] {' ', 'a', '~'}) {
            refused("one more", bank, STATE, () -> bank.type(character));
        }
        same("the sixty are there", bank.execute(), 8);
        same("room again", bank.type('x'), 1);
    }

    static void promise43_orderOfExceptions() {
        InkBank bank = new InkBank();
        for (int i = 0; i < 60; i++) {
            bank.type('x');
        }
        refused("31", bank, ARGUMENT, () -> bank.type((char) 31));
        refused("127", bank, ARGUMENT, () -> bank.type((char) 127));
    }

    static void promise43_notForUndo() {
        InkBank bank = ready();
        bank.type('x');
        same("undo", bank.undo(), 4);
        same("the character is there", bank.type('x'), 2);
    }

    // ---- Promise 44: execute

    static void promise44_returnsTheNumberOfCommands() {
        same("1", Banks.run(ready(), "wait 1"), 1);
        same("2", Banks.run(ready(), "wait 1;wait 1"), 2);
        same("8", Banks.run(ready(), "wait 1;wait 1;wait 1;wait 1;wait 1;wait 1;wait 1;wait 1"), 8);
    }

    static void promise44_emptiesTheBuffer() {
        InkBank bank = ready();
        Banks.run(bank, "wait 1");
        Check.fails("nothing is left", ARGUMENT, bank::execute);
        same("which is malformed at its end", bank.errorPosition(), 0);
        Check.fails("malformed", ARGUMENT, () -> Banks.run(bank, "wait"));
        same("after a malformed one", Banks.run(bank, "wait 1"), 1);
        Check.fails("failing", STATE, () -> Banks.run(bank, "wait 0"));
        same("after a failing one", Banks.run(bank, "wait 1"), 1);
        same("day", bank.day(), 3);
    }

    static void promise44_anEmptyBufferIsMalformed() {
        malformed("", 0);
    }

    static void promise44_commandsSeeWhatEarlierOnesDid() {
        does("draw 0 100;pay 0 1;draw 0 1", 3, bank -> {
            bank.withdraw(0, 100);
            bank.deposit(0, 1);
            bank.withdraw(0, 1);
        });
        does("send 10 9 0;wait 1;limit 0 5;draw 0 114", 4, bank -> {
            bank.seal(1, 0, 9, 0);
            bank.endDays(1);
            bank.setLimit(0, 5);
            bank.withdraw(0, 114);
        });
        does("send 10 9 2;void 1", 2, bank -> bank.cancel(bank.seal(1, 0, 9, 2)));
    }

    static void promise44_allOrNone() {
        fails("pay 0 1;wait 1;draw 1 5;send 01 7 7;limit 0 3;void 0;void 0", 6);
        InkBank bank = ready();
        Check.fails("failing", STATE, () -> Banks.run(bank, "send 01 7 7;wait 0"));
        same("the next id", bank.seal(0, 1, 1, 1), 1);
    }

    static void promise44_malformedBeforeFailing() {
        malformed("pay 9 1;x", 8);
        malformed("wait 0;wait 1;", 14);
        malformed("wait 1;wait 1;wait", 18);
    }

    static void promise44_theMethodOfACommandThrows() {
        fails("pay 2 1", 0);
        fails("pay 0 0", 0);
        fails("pay 0 9;pay 0 000", 1);
        fails("draw 2 1", 0);
        fails("draw 0 0", 0);
        fails("draw 0 101", 0);
        fails("limit 2 1", 0);
        fails("limit 0 501", 0);
        fails("limit 1 0", 0);
        fails("limit 0 9;draw 0 109;limit 0 8", 2);
        fails("send 20 1 1", 0);
        fails("send 02 1 1", 0);
        fails("send 11 1 1", 0);
        fails("send 01 0 1", 0);
        fails("send 01 1 61", 0);
        fails("void 1", 0);
        fails("void 999", 0);
        fails("wait 0", 0);
        fails("wait 61", 0);
        fails("wait 999", 0);
    }

    static void promise44_tooManyDropsOrTransfers() {
        InkBank full = holding(QUILL, 9000);
        Check.fails("over 9999", STATE, () -> Banks.run(full, "pay 0 500;pay 0 500"));
        same("failedCommand", full.failedCommand(), 1);
        same("balance", full.balanceOf(0), 9000);
        same("just 9999", Banks.run(full, "pay 0 500;pay 0 499"), 2);
        InkBank ten = with(QUILL, QUILL);
        for (int i = 0; i < 9; i++) {
            ten.seal(0, 1, 1, 1);
        }
        Check.fails("the eleventh", STATE, () -> Banks.run(ten, "send 01 1 1;send 01 1 1"));
        same("failedCommand", ten.failedCommand(), 1);
        same("transferCount", ten.transferCount(), 9);
        same("the tenth", Banks.run(ten, "send 01 1 1;void 9;send 01 1 1"), 3);
    }

    static void promise44_theLimitsOfTheMethods() {
        does("wait 60", 1, bank -> bank.endDays(60));
        does("limit 0 500", 1, bank -> bank.setLimit(0, 500));
        does("send 01 999 60", 1, bank -> bank.seal(0, 1, 999, 60));
        does("draw 0 100", 1, bank -> bank.withdraw(0, 100));
    }

    // ---- Promise 45: errorPosition

    static void promise45_ofTheLastMalformedProgram() {
        InkBank bank = ready();
        Check.fails("the first", ARGUMENT, () -> Banks.run(bank, "wait"));
        same("the first's", bank.errorPosition(), 4);
        Check.fails("the second", ARGUMENT, () -> Banks.run(bank, "x"));
        same("the second's", bank.errorPosition(), 0);
        Banks.run(bank, "wait 1");
        same("after a program", bank.errorPosition(), 0);
        Check.fails("a failing one", STATE, () -> Banks.run(bank, "wait 1;wait 0"));
        same("after a failing one", bank.errorPosition(), 0);
        Check.fails("the third", ARGUMENT, () -> Banks.run(bank, "wait 1;wait 0;"));
        same("the third's", bank.errorPosition(), 14);
    }

    static void promise45_noneWasMalformed() {
        InkBank bank = ready();
        refused("at first", bank, ELEMENT, bank::errorPosition);
        Banks.type(bank, "wa");
        refused("typed", bank, ELEMENT, bank::errorPosition);
        Banks.run(bank, "it 1");
        refused("after a program", bank, ELEMENT, bank::errorPosition);
        Check.fails("a failing one", STATE, () -> Banks.run(bank, "wait 0"));
        refused("after a failing one", bank, ELEMENT, bank::errorPosition);
    }

    // ---- Promise 46: failedCommand

    static void promise46_ofTheLastThatFailed() {
        InkBank bank = ready();
        Check.fails("the first", STATE, () -> Banks.run(bank, "wait 1;wait 1;wait 0"));
        same("the first's", bank.failedCommand(), 2);
        Check.fails("the second", STATE, () -> Banks.run(bank, "wait 0;wait 0"));
        same("the second's", bank.failedCommand(), 0);
        Banks.run(bank, "wait 1");
        same("after a program", bank.failedCommand(), 0);
        Check.fails("a malformed one", ARGUMENT, () -> Banks.run(bank, "wait 1;wait 0;"));
        same("after a malformed one", bank.failedCommand(), 0);
        Check.fails("the third", STATE, () -> Banks.run(bank, "wait 1;wait 1;wait 1;wait 1;wait 1;wait 1;wait 1;wait 0"));
        same("the third's", bank.failedCommand(), 7);
    }

    static void promise46_noneFailed() {
        refused("at first", () -> ready(), ELEMENT, InkBank::failedCommand);
        InkBank bank = ready();
        Banks.run(bank, "wait 1");
        refused("after a program", bank, ELEMENT, bank::failedCommand);
        Check.fails("a malformed one", ARGUMENT, () -> Banks.run(bank, "wait 0;"));
        refused("after a malformed one", bank, ELEMENT, bank::failedCommand);
        Check.fails("a refused call is no command", ARGUMENT, () -> bank.endDays(0));
        refused("after a refused call", bank, ELEMENT, bank::failedCommand);
    }
}
