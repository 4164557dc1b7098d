import java.lang.reflect.InvocationTargetException;
import java.lang.reflect.Method;
import java.util.TreeMap;

/** Counts checks; a test's main method ends with finish, or is runAll alone. */
final class Check {
    private static int passed = 0;
    private static int failed = 0;
    private static String running = "";

    private Check() {
    }

    static void same(String what, Object got, Object due) {
        if (got.equals(due)) {
            passed++;
        } else {
            failed++;
            System.out.println(running + what + " answered " + got + ", due is " + due);
        }
    }

    /** Checks that a call throws just this class: none of its subclasses, which the machine throws. */
    static void fails(String what, Class<?> due, Runnable call) {
        Object got = "nothing thrown";
        try {
            call.run();
        } catch (RuntimeException thrown) {
            got = thrown.getClass();
        }
        same(what, got, due);
    }

    /** Checks that a call throws just this class and that the bank answers as before. */
    static void refused(String what, InkBank bank, Class<?> due, Runnable call) {
        String before = Banks.all(bank);
        fails(what, due, call);
        same(what + ", then all answers", Banks.all(bank), before);
    }

    /** Runs each method of a class whose name begins with "promise" or "terms"; a new one can't be forgotten. */
    static void runAll(Class<?> tests) throws IllegalAccessException {
        for (Method test : testsOf(tests).values()) {
            running = test.getName() + ": ";
            int checks = passed + failed;
            try {
                test.invoke(null);
            } catch (InvocationTargetException thrown) {
                same("a call", thrown.getCause(), "an answer");
            }
            same("checks something", passed + failed > checks, true);
        }
        running = "";
        finish(tests.getSimpleName());
    }

    static TreeMap<String, Method> testsOf(Class<?> tests) {
        TreeMap<String, Method> found = new TreeMap<>();
        for (Method method : tests.getDeclaredMethods()) {
            if (method.getName().startsWith("promise") || method.getName().startsWith("terms")) {
                found.put(method.getName(), method);
            }
        }
        return found;
    }

    static void finish(String test) {
        System.out.println(test + ": " + passed + " checks as due, " + failed + " not");
        if (failed > 0 || passed == 0) {
            System.exit(1);
        }
    }
}
