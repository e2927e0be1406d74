import java.lang.reflect.Method;

/** Each promise has tests of its edges, named after it. */
public final class PromisesTest {
    private static final int PROMISES = 36;
    private static final Class<?>[] EDGES = {MarketEdgesTest.class, HandsEdgesTest.class, SwapsEdgesTest.class,
        SayingsEdgesTest.class, RowsEdgesTest.class, SheetsEdgesTest.class};

    public static void main(String[] args) {
        for (int number = 1; number <= PROMISES; number++) {
            Check.holds("promise " + number + " has a test of an edge", count("promise" + number + "\\D.*") > 0);
        }
        Check.due("tests of no promise", count("promise.*") - count("promise([1-9]|[12]\\d|3[0-6])[A-Z].*"), 0);
        Check.end("PromisesTest");
    }

    private static int count(String name) {
        int count = 0;
        for (Class<?> tests : EDGES) {
            for (Method method : tests.getDeclaredMethods()) {
                count += method.getName().matches(name) ? 1 : 0;
            }
        }
        return count;
    }
}
