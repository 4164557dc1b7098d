import java.io.IOException;
import java.nio.file.Files;
import java.nio.file.Path;

/** The examples of README.md answer as it says, and none of them is missing here. */
public final class ReadmeTest {
    public static void main(String[] args) throws IOException {
        InkBank bank = new InkBank();
        int purse = bank.open(InkBank.CURRENT);
        int vault = bank.open(InkBank.VAULT);
        Check.same("purse", purse, 0);
        Check.same("vault", vault, 1);
        answer(bank.deposit(purse, 250), 250);
        answer(bank.seal(purse, vault, 200, 0), 0);
        answer(bank.balanceAfter(vault, 1), 210);
        answer(bank.endDays(1), 1);
        answer(bank.balanceOf(vault), 210);
        answer(bank.undo(), 4);
        for (char sign : "pay 0 100;send 01 30 2;wait 3".toCharArray()) {
            bank.type(sign);
        }
        answer(bank.execute(), 3);
        answer(bank.day(), 3);
        try {
            bank.withdraw(vault, 999);
            Check.same("withdraw", "an answer", "an exception");
        } catch (IllegalStateException tooMuch) {
            answer(bank.availableIn(vault), 260);
        }
        everyExampleStandsHere();
        Check.finish("ReadmeTest");
    }

    private static void answer(int got, int due) {
        Check.same("an example", got, due);
    }

    /** Looks for each line of code on the page, and for its answer, among the lines of this test. */
    private static void everyExampleStandsHere() throws IOException {
        String test = Files.readString(Path.of("src/test/java/ReadmeTest.java"));
        boolean code = false;
        for (String line : Files.readAllLines(Path.of("README.md"))) {
            if (line.startsWith("```")) {
                code = line.equals("```java");
            } else if (code) {
                Check.same("README: " + line, test.contains(asTested(line)), true);
            }
        }
    }

    /** Turns "call();  // 5, as is said" into "answer(call(), 5);", and leaves code without a number as it is. */
    private static String asTested(String line) {
        String[] parts = line.split("//", 2);
        String call = parts[0].strip();
        if (parts.length < 2 || call.startsWith("int ")) {
            return call;
        }
        String due = parts[1].strip().split("[^0-9-]", 2)[0];
        return "answer(" + call.substring(0, call.length() - 1) + ", " + due + ");";
    }
}
