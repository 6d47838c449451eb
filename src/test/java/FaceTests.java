import java.lang.reflect.Constructor;
import java.lang.reflect.Field;
import java.lang.reflect.Method;
import java.lang.reflect.Modifier;
import java.nio.file.Path;
import java.util.ArrayList;
import java.util.HashSet;
import java.util.List;
import java.util.Set;
import java.util.TreeSet;

/** The face of the class, and those rules of ../shared/LANGUAGE.md that a test can see. */
final class FaceTests {
    private static final Path SOURCE = Path.of("src/main/java/WindFarmDispatcher.java");

    static void testConstants() {
        Check.answers(1, () -> WindFarmDispatcher.TURBINE_LIMIT);
        Check.answers(2, () -> WindFarmDispatcher.CELL_TAKEN);
        Check.answers(3, () -> WindFarmDispatcher.NOT_RUNNING);
        Check.answers(4, () -> WindFarmDispatcher.NOT_FAILED);
        Check.answers(5, () -> WindFarmDispatcher.NO_CREW);
        Check.answers(6, () -> WindFarmDispatcher.NOT_IN_SERVICE);
        Check.answers(7, () -> WindFarmDispatcher.NOT_CURTAILED);
        Check.answers(8, () -> WindFarmDispatcher.BID_EXISTS);
        Check.answers(9, () -> WindFarmDispatcher.NO_BID);
        Check.answers(10, () -> WindFarmDispatcher.COMMAND_REJECTED);
    }

    /** The document's face, line by line, is what the class shows, and it shows nothing else. */
    static void testFaceIsTheDocuments() {
        Set<String> due = new TreeSet<>();
        boolean inFace = false;
        for (String line : Document.lines()) {
            if (line.startsWith("public final class")) {
                inFace = true;
            } else if (line.equals("}")) {
                inFace = false;
            } else if (inFace) {
                due.add(bare(line));
            }
        }
        Check.isTrue("the document has a face", due.size() == 73);
        Check.answers(due, FaceTests::shown);
        Check.isTrue("final", Modifier.isFinal(WindFarmDispatcher.class.getModifiers()));
    }

    private static Set<String> shown() {
        Set<String> shown = new TreeSet<>();
        for (Field field : WindFarmDispatcher.class.getDeclaredFields()) {
            if (!Modifier.isPrivate(field.getModifiers())) {
                shown.add(Modifier.toString(field.getModifiers()) + " " + field.getType().getName()
                        + " " + field.getName());
            }
        }
        for (Constructor<?> constructor : WindFarmDispatcher.class.getDeclaredConstructors()) {
            shown.add(Modifier.toString(constructor.getModifiers()) + " WindFarmDispatcher()");
        }
        for (Method method : WindFarmDispatcher.class.getDeclaredMethods()) {
            if (!Modifier.isPrivate(method.getModifiers())) {
                shown.add(described(method));
            }
        }
        return shown;
    }

    private static String described(Method method) {
        List<String> types = new ArrayList<>();
        for (Class<?> type : method.getParameterTypes()) {
            types.add(type.getName());
        }
        List<String> thrown = new ArrayList<>();
        for (Class<?> type : method.getExceptionTypes()) {
            thrown.add(type.getSimpleName());
        }
        return Modifier.toString(method.getModifiers()) + " " + method.getReturnType().getName()
                + " " + method.getName() + "(" + String.join(", ", types) + ")"
                + (thrown.isEmpty() ? "" : " throws " + String.join(", ", thrown));
    }

    /** A line of the document's face without the names of the parameters and the values of the constants. */
    private static String bare(String line) {
        String text = line.trim().replaceAll(" = \\d+;|;", "");
        int open = text.indexOf('(');
        if (open < 0) {
            return text;
        }
        int close = text.indexOf(')');
        String parameters = text.substring(open + 1, close).replaceAll("(\\w+) \\w+", "$1");
        return text.substring(0, open + 1) + parameters + text.substring(close);
    }

    /** Rules 1, 5 and 11. */
    static void testMembers() {
        Set<String> names = new HashSet<>();
        for (Method method : WindFarmDispatcher.class.getMethods()) {
            names.add(method.getName());
        }
        List<Class<?>> classes = new ArrayList<>(List.of(WindFarmDispatcher.class.getDeclaredClasses()));
        Check.isTrue("at most twelve classes", classes.size() < 12);
        classes.add(WindFarmDispatcher.class);
        for (Class<?> type : classes) {
            int fields = 0;
            for (Field field : type.getDeclaredFields()) {
                boolean isStatic = Modifier.isStatic(field.getModifiers());
                fields += isStatic ? 0 : 1;
                Check.isTrue(field + " is final", !isStatic || Modifier.isFinal(field.getModifiers()));
            }
            Check.isTrue(type + " has at most twenty fields", fields <= 20);
            for (Method method : type.getDeclaredMethods()) {
                Check.isTrue(method + " has a name of its own",
                        Modifier.isPublic(method.getModifiers()) || !names.contains(method.getName()));
                Check.isTrue(method + " has at most seven parameters", method.getParameterCount() <= 7);
            }
            Check.isTrue(type + " is hidden", type == WindFarmDispatcher.class
                    || !Modifier.isPublic(type.getModifiers()) && Modifier.isStatic(type.getModifiers()));
        }
    }

    /** Rules 2, 4, 6 and 11, as far as the words of the source tell. */
    static void testSource() {
        String[] unwanted = {"::", "finally", "synchronized", "assert ", "package ", "Throwable", "getMessage",
            "NullPointerException", "ArrayIndexOutOfBoundsException", "ClassCastException",
            "NegativeArraySizeException", "ArrayStoreException"};
        int start = 0;
        int number = 0;
        for (String line : Document.linesOf(SOURCE)) {
            number++;
            String code = line.replaceAll("'.'", "''").replaceAll("\"[^\"]*\"", "").replaceAll("//.*|/\\*\\*.*", "");
            for (String word : unwanted) {
                Check.isTrue("line " + number + " has no " + word, !code.contains(word));
            }
            Check.isTrue("line " + number + " has no lambda",
                    !code.contains("->") || code.matches("\\s*(case|default)\\b.*"));
            Check.isTrue("line " + number + " is in ASCII", line.chars().allMatch(sign -> sign >= 32 && sign < 127));
            Check.isTrue("line " + number + " imports what it may", !code.startsWith("import")
                    || code.matches("import java.util.(NoSuchElementException|ArrayList|List|Iterator|Arrays);"));
            if (code.matches(" {4}( {4})?\\S.*\\{")) {
                start = number;
            } else if (code.matches(" {4}( {4})?\\}")) {
                Check.isTrue("the method that ends in line " + number + " is short",
                        number - start <= 60 || code.equals("    }"));
            }
        }
    }

    /** Rule 12: what a run makes stays small, far below the room of 7.3 million fields and elements. */
    static void testRoom() {
        WindFarmDispatcher farm = Farms.full(9);
        com.sun.management.ThreadMXBean threads =
                (com.sun.management.ThreadMXBean) java.lang.management.ManagementFactory.getThreadMXBean();
        long id = Thread.currentThread().getId();
        threads.getThreadAllocatedBytes(id);
        long before = threads.getThreadAllocatedBytes(id);
        for (int round = 0; round < 20; round++) {
            farm.setWind('N', 12);
            farm.setGridLimit(round);
            farm.dispatch();
            farm.incomeWithin(48);
            farm.passHours(48);
            farm.releaseAll();
            farm.writeTurbine(3);
            farm.turbineByOutput(11);
            farm.appendInput('t');
            farm.appendInput('9');
            farm.execute();
            farm.saveSnapshot();
            farm.undo();
            farm.restoreSnapshot();
        }
        long made = threads.getThreadAllocatedBytes(id) - before;
        Check.isTrue("calls make few objects, but " + made + " bytes were made", made < 1_000_000);
    }
}
