import java.lang.reflect.InvocationTargetException;
import java.lang.reflect.Method;
import java.util.Arrays;
import java.util.Comparator;
import java.util.TreeSet;

/** Runs every test of the project; ends with exit code 1 if one fails or a promise has none. */
final class AllTests {
    private static final int PROMISES = 63;
    private static final Class<?>[] CLASSES = {
        TurbineTests.class, WindTests.class, BidTests.class, HourTests.class, TextTests.class,
        HistoryTests.class, FaceTests.class, ModelTests.class,
    };

    public static void main(String[] arguments) throws IllegalAccessException {
        int passed = 0;
        int failed = 0;
        TreeSet<Integer> missing = new TreeSet<>();
        for (int promise = 1; promise <= PROMISES; promise++) {
            missing.add(promise);
        }
        for (Class<?> tests : CLASSES) {
            for (Method test : testsOf(tests)) {
                if (passes(test)) {
                    passed++;
                } else {
                    failed++;
                    System.out.println("FAILED: " + tests.getName() + "." + test.getName());
                }
                if (test.getName().startsWith("promise")) {
                    missing.remove(Integer.parseInt(test.getName().substring(7, 9)));
                }
            }
        }
        if (!missing.isEmpty()) {
            failed++;
            System.out.println("FAILED: no test for the promises " + missing);
        }
        System.out.println("tests of the project: " + passed + " passed, " + failed + " failed");
        if (failed > 0) {
            System.exit(1);
        }
    }

    private static Method[] testsOf(Class<?> tests) {
        return Arrays.stream(tests.getDeclaredMethods())
                .filter(method -> method.getName().matches("promise\\d\\d.*|test.*"))
                .sorted(Comparator.comparing(Method::getName))
                .toArray(Method[]::new);
    }

    private static boolean passes(Method test) throws IllegalAccessException {
        int wrongBefore = Check.wrongAnswers();
        try {
            test.setAccessible(true);
            test.invoke(null);
        } catch (InvocationTargetException thrown) {
            thrown.getCause().printStackTrace(System.out);
            return false;
        }
        return Check.wrongAnswers() == wrongBefore;
    }
}
