import java.util.NoSuchElementException;
import java.util.Objects;

/** Compares answers with those that are due, and counts the wrong ones. */
final class Check {
    interface Call {
        Object answer();
    }

    static final Class<? extends RuntimeException> INDEX = IndexOutOfBoundsException.class;
    static final Class<? extends RuntimeException> ARGUMENT = IllegalArgumentException.class;
    static final Class<? extends RuntimeException> STATE = IllegalStateException.class;
    static final Class<? extends RuntimeException> ELEMENT = NoSuchElementException.class;
    static final Class<? extends RuntimeException> REJECTED = UnsupportedOperationException.class;
    static final Class<? extends RuntimeException> ARITHMETIC = ArithmeticException.class;

    private static int wrong = 0;

    private Check() {
    }

    static int wrongAnswers() {
        return wrong;
    }

    static void isTrue(String what, boolean holds) {
        if (!holds) {
            wrong++;
            System.out.println("not so: " + what);
        }
    }

    /** The answer has to be of the same kind, too: 1 is not 1L. */
    static void answers(Object due, Call call) {
        Object got = outcome(call);
        if (!Objects.equals(got, due)) {
            wrong++;
            System.out.println(caller() + ": answered " + got + ", due is " + due);
        }
    }

    static void refuses(Class<? extends RuntimeException> due, Call call) {
        answers(thrown(due), call);
    }

    /** A rejected call: what it throws, and the reason and the detail of the rejection. */
    static void rejects(WindFarmDispatcher farm, int reason, int detail, Call call) {
        refuses(REJECTED, call);
        answers(reason, farm::rejectionReason);
        answers(detail, farm::rejectionDetail);
    }

    /** The answer, or the exact class of the exception in place of it. */
    static Object outcome(Call call) {
        try {
            return call.answer();
        } catch (RuntimeException thrown) {
            return thrown(thrown.getClass());
        }
    }

    static String thrown(Class<? extends RuntimeException> kind) {
        return "throws " + kind.getName();
    }

    private static String caller() {
        for (StackTraceElement element : new Throwable().getStackTrace()) {
            if (!element.getClassName().matches("Check|Twins")) {
                return element.toString();
            }
        }
        return "?";
    }
}
