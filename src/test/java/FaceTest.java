import java.lang.reflect.Constructor;
import java.lang.reflect.Field;
import java.lang.reflect.Method;
import java.lang.reflect.Modifier;
import java.util.Arrays;
import java.util.TreeSet;

/** The public face: what the class shows, and nothing besides. */
public final class FaceTest {
    private static final String[] METHODS = {
        "int open(int) IllegalArgumentException IllegalStateException",
        "int deposit(int,int) IndexOutOfBoundsException IllegalArgumentException IllegalStateException",
        "int withdraw(int,int) IndexOutOfBoundsException IllegalArgumentException IllegalStateException",
        "int setLimit(int,int) IndexOutOfBoundsException IllegalArgumentException"
            + " UnsupportedOperationException IllegalStateException",
        "int accountCount()",
        "int kindOf(int) IndexOutOfBoundsException",
        "int balanceOf(int) IndexOutOfBoundsException",
        "int limitOf(int) IndexOutOfBoundsException",
        "int availableIn(int) IndexOutOfBoundsException",
        "boolean wasTouched(int) IndexOutOfBoundsException",
        "int interestOf(int) IndexOutOfBoundsException",
        "int accountAtRank(int) NoSuchElementException",
        "double meanBalance() ArithmeticException",
        "int bankBalance()",
        "long totalInk()",
        "long totalInkByMovements()",
        "long transferredInk()",
        "long interestPaid()",
        "long chargesPaid()",
        "int day()",
        "int endDays(int) IllegalArgumentException",
        "int balanceAfter(int,int) IndexOutOfBoundsException IllegalArgumentException",
        "int seal(int,int,int,int) IndexOutOfBoundsException IllegalArgumentException IllegalStateException",
        "int cancel(int) NoSuchElementException",
        "int transferCount()",
        "int transferAt(int) IndexOutOfBoundsException",
        "int senderOf(int) NoSuchElementException",
        "int receiverOf(int) NoSuchElementException",
        "int amountOf(int) NoSuchElementException",
        "int daysUntilDue(int) NoSuchElementException",
        "boolean wouldBounce(int) NoSuchElementException",
        "int bounceCount()",
        "int netOf(int) IndexOutOfBoundsException",
        "int netByTable(int) IndexOutOfBoundsException",
        "boolean leadsTo(int,int) IndexOutOfBoundsException",
        "int journalLength()",
        "char movementKind(int) NoSuchElementException",
        "int movementAmount(int) NoSuchElementException",
        "int movementAccount(int) NoSuchElementException",
        "int writeStatement(int) IndexOutOfBoundsException",
        "char statementAt(int) IndexOutOfBoundsException",
        "int type(char) IllegalArgumentException IllegalStateException",
        "int execute() IllegalArgumentException IllegalStateException",
        "int errorPosition() NoSuchElementException",
        "int failedCommand() NoSuchElementException",
        "int undo() IllegalStateException",
        "int save()",
        "int restore() IllegalStateException",
    };

    public static void main(String[] args) throws IllegalAccessException {
        Check.same("methods", shownMethods(), new TreeSet<>(Arrays.asList(METHODS)));
        Check.same("fields", shownFields(), new TreeSet<>(Arrays.asList("CURRENT=0", "SAVINGS=1", "QUILL=2", "VAULT=3")));
        Constructor<?>[] constructors = InkBank.class.getDeclaredConstructors();
        Check.same("constructors", constructors.length, 1);
        Check.same("constructor", Modifier.isPublic(constructors[0].getModifiers()) && constructors[0].getParameterCount() == 0, true);
        Check.same("public and final", InkBank.class.getModifiers() & (Modifier.PUBLIC | Modifier.FINAL), Modifier.PUBLIC | Modifier.FINAL);
        Check.finish("FaceTest");
    }

    private static TreeSet<String> shownMethods() {
        TreeSet<String> shown = new TreeSet<>();
        for (Method method : InkBank.class.getDeclaredMethods()) {
            if (Modifier.isPrivate(method.getModifiers())) {
                continue;
            }
            StringBuilder text = new StringBuilder(method.getReturnType().getName());
            text.append(' ').append(method.getName()).append('(');
            for (Class<?> type : method.getParameterTypes()) {
                text.append(text.charAt(text.length() - 1) == '(' ? "" : ",").append(type.getName());
            }
            text.append(')');
            for (Class<?> type : method.getExceptionTypes()) {
                text.append(' ').append(type.getSimpleName());
            }
            shown.add(text.toString());
        }
        return shown;
    }

    private static TreeSet<String> shownFields() throws IllegalAccessException {
        TreeSet<String> shown = new TreeSet<>();
        for (Field field : InkBank.class.getDeclaredFields()) {
            if (!Modifier.isPrivate(field.getModifiers())) {
                shown.add(field.getName() + "=" + field.get(null));
            }
        }
        return shown;
    }
}
