import java.lang.reflect.Method;
import java.util.Map;
import java.util.TreeMap;
import java.util.TreeSet;

/** Counts the answers that are not as due, and ends a test with exit code 1 if there was one. */
final class Checks {
    private static final String PREFIX = "promise";

    private static int checked = 0;
    private static int wrong = 0;
    private static String test = "";

    private Checks() {
    }

    static void due(String call, long got, long want) {
        checked++;
        if (got != want) {
            wrong++;
            System.out.println(test + call + " answered " + got + ", due is " + want);
        }
    }

    static void due(String call, boolean got, boolean want) {
        due(call, got ? 1 : 0, want ? 1 : 0);
    }

    static void due(String call, String got, String want) {
        checked++;
        if (!got.equals(want)) {
            wrong++;
            System.out.println(test + call + " answered " + got + ", due is " + want);
        }
    }

    /**
     * Runs every test of a class, that is every method whose name is promiseNN.., so that none can be
     * written and forgotten; each of the promises from .. to must have one.
     */
    static void runAll(Class<?> tests, int from, int to) throws ReflectiveOperationException {
        Map<String, Method> byName = new TreeMap<>();
        for (Method method : tests.getDeclaredMethods()) {
            if (method.getName().startsWith(PREFIX)) {
                byName.put(method.getName(), method);
            }
        }
        TreeSet<Integer> seen = new TreeSet<>();
        for (Method method : byName.values()) {
            seen.add(numberOf(method));
            test = method.getName() + ": ";
            method.setAccessible(true);
            method.invoke(null);
        }
        test = "";
        for (int promise = from; promise <= to; promise++) {
            due("promise " + promise + " has a test", seen.contains(promise), true);
        }
        System.out.println(byName.size() + " tests");
    }

    private static int numberOf(Method method) {
        return Integer.parseInt(method.getName().substring(PREFIX.length(), PREFIX.length() + 2));
    }

    static void finish() {
        System.out.println(checked + " answers looked at, " + wrong + " not as due");
        if (wrong != 0) {
            System.exit(1);
        }
    }
}
