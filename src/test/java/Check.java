import java.lang.reflect.InvocationTargetException;
import java.lang.reflect.Method;
import java.util.Arrays;
import java.util.Comparator;

/** What all tests share: it counts answers that are due and prints those that are not. */
final class Check {
    private static int passed = 0;
    private static int failed = 0;
    private static String test = "";

    private Check() {
    }

    static void due(String call, long got, long want) {
        if (got == want) {
            passed++;
        } else {
            failed++;
            System.out.println(test + call + " answered " + got + ", due is " + want);
        }
    }

    static void holds(String what, boolean so) {
        due(what, so ? 1 : 0, 1);
    }

    /** Fills a SHEET with numbers of a SORT. */
    static void fill(ByHand x, int sheet, int sort, int... numbers) {
        due("sheet", x.sheet(sheet, sort, numbers.length), 1);
        for (int i = 0; i < numbers.length; i++) {
            due("put", x.put(sheet, i, numbers[i]), 1);
        }
    }

    /** Gives a TEXT to an object by SHEET 0 and what its market answers. */
    static int market(ByHand x, String text) {
        int[] codes = new int[text.length()];
        for (int i = 0; i < codes.length; i++) {
            codes[i] = text.charAt(i);
        }
        fill(x, 0, 0, codes);
        return x.market(0, 0, 0, codes.length);
    }

    /** A new object with a MARKET of such WEIGHTS. */
    static ByHand with(int... weights) {
        ByHand x = new ByHand();
        StringBuilder text = new StringBuilder();
        for (int weight : weights) {
            text.append(text.length() == 0 ? "" : ";").append(String.format("%03d", weight));
        }
        due("market " + text, market(x, text.toString()), weights.length);
        return x;
    }

    /** Calls all methods of a class whose names begin with a promise's, so that none is forgotten, and ends. */
    static void all(Class<?> tests) throws ReflectiveOperationException {
        Method[] methods = tests.getDeclaredMethods();
        Arrays.sort(methods, Comparator.comparing(Method::getName));
        int called = 0;
        for (Method method : methods) {
            if (method.getName().startsWith("promise")) {
                test = method.getName() + ": ";
                called += passes(method);
            }
        }
        test = "";
        holds("there are tests", called > 0);
        end(tests.getSimpleName() + " (" + called + " tests)");
    }

    /** Calls one test; it counts for nothing if it asks for nothing. */
    private static int passes(Method method) throws ReflectiveOperationException {
        int before = passed + failed;
        try {
            method.invoke(null);
        } catch (InvocationTargetException e) {
            e.getCause().printStackTrace();
            holds("ends without a throw", false);
        }
        holds("asks for something", passed + failed > before);
        return 1;
    }

    /** Prints the count of a test and ends with exit code 1 if an answer was not as due. */
    static void end(String test) {
        System.out.println(test + ": " + passed + " passed, " + failed + " failed");
        if (failed != 0 || passed == 0) {
            System.exit(1);
        }
    }
}
