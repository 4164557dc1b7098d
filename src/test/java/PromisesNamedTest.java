import java.util.TreeSet;
import java.util.regex.Matcher;
import java.util.regex.Pattern;

/** Each promise of the document has a test that bears its number. */
public final class PromisesNamedTest {
    private static final Class<?>[] TESTS = {
        Promises01To14Test.class, Promises15To23Test.class, Promises24To36Test.class,
        Promises37To42Test.class, Promises43To46Test.class, Promises47To49Test.class,
    };

    public static void main(String[] args) {
        Pattern promise = Pattern.compile("promise([0-9][0-9])");
        TreeSet<Integer> named = new TreeSet<>();
        for (Class<?> tests : TESTS) {
            for (String test : Check.testsOf(tests).keySet()) {
                Matcher matcher = promise.matcher(test);
                while (matcher.find()) {
                    named.add(Integer.parseInt(matcher.group(1)));
                }
            }
        }
        for (int number = 1; number <= 49; number++) {
            Check.same("promise " + number + " has a test", named.contains(number), true);
        }
        Check.same("promises", named.size(), 49);
        Check.finish("PromisesNamedTest");
    }
}
