import java.lang.reflect.InvocationTargetException;
import java.lang.reflect.Method;
import java.util.ArrayList;
import java.util.Arrays;
import java.util.Comparator;
import java.util.List;

/** Runs every test of the project; ends with exit code 1 if one fails. */
final class AllTests {
    private static final Class<?>[] CLASSES = {
        TermTests.class, CommandTests.class, RuleTests.class, TurbineTests.class, WindTests.class, BidTests.class,
        HourTests.class, TextTests.class, HistoryTests.class, SentenceTests.class, FaceTests.class, ModelTests.class,
        ReadmeTests.class,
    };

    // Far longer than any test takes, so that a call that does not end fails its test.
    private static final int MOST_MILLISECONDS = 180_000;

    public static void main(String[] arguments) throws InterruptedException {
        int passed = 0;
        int failed = 0;
        for (Method test : tests()) {
            if (passes(test)) {
                passed++;
            } else {
                failed++;
                System.out.println("FAILED: " + test.getDeclaringClass().getName() + "." + test.getName());
            }
        }
        System.out.println("tests of the project: " + passed + " passed, " + failed + " failed");
        if (failed > 0) {
            System.exit(1);
        }
    }

    static List<Method> tests() {
        List<Method> tests = new ArrayList<>();
        for (Class<?> type : CLASSES) {
            Arrays.stream(type.getDeclaredMethods())
                    .filter(AllTests::isTest)
                    .sorted(Comparator.comparing(Method::getName))
                    .forEach(tests::add);
        }
        return tests;
    }

    private static boolean isTest(Method method) {
        return method.getParameterCount() == 0 && method.getName().matches("(promise\\d\\d|terms|test).*");
    }

    private static boolean passes(Method test) throws InterruptedException {
        int wrongBefore = Check.wrongAnswers();
        boolean[] hasEnded = {false};
        Thread run = new Thread(() -> hasEnded[0] = ends(test));
        run.setDaemon(true);
        run.start();
        run.join(MOST_MILLISECONDS);
        if (run.isAlive()) {
            System.out.println("FAILED: " + test.getDeclaringClass().getName() + "." + test.getName() + " does not end");
            System.exit(1);
        }
        return hasEnded[0] && Check.wrongAnswers() == wrongBefore;
    }

    private static boolean ends(Method test) {
        try {
            test.setAccessible(true);
            test.invoke(null);
            return true;
        } catch (InvocationTargetException thrown) {
            thrown.getCause().printStackTrace(System.out);
        } catch (IllegalAccessException hidden) {
            hidden.printStackTrace(System.out);
        }
        return false;
    }
}
