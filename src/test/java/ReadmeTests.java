import java.lang.reflect.InvocationTargetException;
import java.lang.reflect.Method;
import java.nio.file.Path;
import java.util.Set;
import java.util.TreeSet;
import java.util.regex.Matcher;
import java.util.regex.Pattern;

/** What README.md shows of the program is what the program does. */
final class ReadmeTests {
    private static final Path README = Path.of("README.md");
    private static final Pattern ANSWERED = Pattern.compile("farm\\.(\\w+)\\((.*)\\); +// answers (\\d+)\\b.*");
    private static final Pattern TYPED = Pattern.compile("for .*\"(.*)\"\\.toCharArray.*");
    private static final Pattern COMMAND = Pattern.compile("\\| `([^`]+)` \\| `(\\w+)\\((.*)\\)`.*");

    static void testExample() throws ReflectiveOperationException {
        WindFarmDispatcher farm = new WindFarmDispatcher();
        int answers = 0;
        for (String line : Document.linesOf(README)) {
            Matcher answered = ANSWERED.matcher(line);
            Matcher typed = TYPED.matcher(line);
            if (answered.matches()) {
                Object got = answer(farm, answered.group(1), answered.group(2));
                Check.isTrue("README.md: " + line + ", but it answers " + got,
                        String.valueOf(got).equals(answered.group(3)));
                answers++;
            } else if (typed.matches()) {
                Farms.type(farm, typed.group(1));
            }
        }
        Check.isTrue("the example of README.md has ten answers", answers == 10);
    }

    /** Each is carried out once and twice, as some are rejected then, as their calls are. */
    static void testCommands() throws ReflectiveOperationException {
        Set<Character> letters = new TreeSet<>();
        for (String line : Document.linesOf(README)) {
            Matcher row = COMMAND.matcher(line);
            if (row.matches()) {
                String command = row.group(1);
                letters.add(command.charAt(0));
                Check.answers(afterCalls(row.group(2), row.group(3), 1), () -> afterCommands(command, 1));
                Check.answers(afterCalls(row.group(2), row.group(3), 2), () -> afterCommands(command, 2));
            }
        }
        Check.answers("[a, b, c, d, f, g, q, r, s, t, u, v, w]", () -> letters.toString());
    }

    private static String afterCalls(String name, String arguments, int times) throws ReflectiveOperationException {
        WindFarmDispatcher farm = Farms.busyWithoutInput();
        String outcomes = "";
        for (int time = 1; time <= times; time++) {
            Object got = answer(farm, name, arguments);
            outcomes += got == null ? "rejected " + farm.rejectionReason() + "; " : "done; ";
        }
        return outcomes + Farms.dataOf(farm);
    }

    private static String afterCommands(String command, int times) {
        WindFarmDispatcher farm = Farms.busyWithoutInput();
        String outcomes = "";
        for (int time = 1; time <= times; time++) {
            boolean isDone = Check.outcome(() -> Farms.run(farm, command)) instanceof Integer;
            outcomes += isDone ? "done; " : "rejected " + farm.causeReason() + "; ";
        }
        return outcomes + Farms.dataOf(farm);
    }

    /** The answer of a call that is written in README.md, or null if it is rejected. */
    private static Object answer(WindFarmDispatcher farm, String name, String written)
            throws ReflectiveOperationException {
        for (Method method : WindFarmDispatcher.class.getMethods()) {
            if (method.getName().equals(name)) {
                try {
                    return method.invoke(farm, argumentsOf(written));
                } catch (InvocationTargetException thrown) {
                    Check.answers(UnsupportedOperationException.class, () -> thrown.getCause().getClass());
                    return null;
                }
            }
        }
        Check.isTrue("README.md: there is a method " + name, false);
        return null;
    }

    private static Object[] argumentsOf(String written) {
        String[] parts = written.isEmpty() ? new String[0] : written.split(", ");
        Object[] arguments = new Object[parts.length];
        for (int index = 0; index < parts.length; index++) {
            boolean isCharacter = parts[index].startsWith("'");
            arguments[index] = isCharacter ? (Object) parts[index].charAt(1) : (Object) Integer.valueOf(parts[index]);
        }
        return arguments;
    }
}
