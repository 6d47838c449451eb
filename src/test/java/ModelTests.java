import java.lang.reflect.InvocationTargetException;
import java.lang.reflect.Method;
import java.util.ArrayList;
import java.util.Arrays;
import java.util.Comparator;
import java.util.HashMap;
import java.util.List;
import java.util.Map;
import java.util.Random;

/** Long runs of calls by chance (with fixed seeds), answered by the program and by the model alike. */
final class ModelTests {
    private static final int RUNS = 1500;
    private static final int CALLS = 512;

    private static final List<Method> METHODS = methods();
    private static final Map<String, Method> MODELS = new HashMap<>();

    private final Random random;
    private final WindFarmDispatcher farm = new WindFarmDispatcher();
    private final Model model = new Model();
    private final List<String> calls = new ArrayList<>();
    private final boolean isWild;

    private ModelTests(int seed) {
        random = new Random(seed);
        isWild = seed % 4 == 0;
    }

    static void testModelHasEveryMethod() {
        for (Method method : METHODS) {
            Check.isTrue("the model has " + method, MODELS.containsKey(method.getName()));
        }
    }

    static void testRunsByChance() throws IllegalAccessException {
        for (int seed = 1; seed <= RUNS; seed++) {
            if (!new ModelTests(seed).agrees()) {
                Check.isTrue("the model agrees with the run of seed " + seed, false);
                return;
            }
        }
    }

    private static List<Method> methods() {
        List<Method> methods = new ArrayList<>();
        for (Method method : WindFarmDispatcher.class.getDeclaredMethods()) {
            if (java.lang.reflect.Modifier.isPublic(method.getModifiers())) {
                methods.add(method);
            }
        }
        methods.sort(Comparator.comparing(Method::getName));
        return methods;
    }

    static {
        for (Method method : Model.class.getDeclaredMethods()) {
            if (java.lang.reflect.Modifier.isPublic(method.getModifiers())) {
                MODELS.put(method.getName(), method);
            }
        }
    }

    private boolean agrees() throws IllegalAccessException {
        if (random.nextBoolean() && !agreeOnFullerFarm()) {
            return false;
        }
        while (calls.size() < CALLS) {
            int kind = random.nextInt(10);
            if (kind < 1 && calls.size() < CALLS - 62) {
                if (!agreeOnInput(randomInput())) {
                    return false;
                }
            } else {
                Method method = kind < 7 ? METHODS.get(random.nextInt(METHODS.size())) : randomChange();
                if (!agree(method, argumentsOf(method))) {
                    return false;
                }
            }
        }
        return true;
    }

    private Method randomChange() {
        String[] names = {"addTurbine", "addTurbine", "fail", "fail", "sendCrew", "sendCrew", "curtail", "setWind",
            "setGridLimit", "dispatch", "placeBid", "passHours"};
        return method(names[random.nextInt(names.length)]);
    }

    private static Method method(String name) {
        return METHODS.stream().filter(method -> method.getName().equals(name)).findFirst().orElseThrow();
    }

    /** A farm to begin with, saved, so that undo and the snapshot do not often lead back to an empty one. */
    private boolean agreeOnFullerFarm() throws IllegalAccessException {
        for (int turbine = 0; turbine < 14; turbine++) {
            Object[] arguments = {random.nextInt(5), random.nextInt(6), 1 + random.nextInt(9)};
            if (!agree(method("addTurbine"), arguments)) {
                return false;
            }
        }
        Object[] wind = {"NESW".charAt(random.nextInt(4)), 3 + random.nextInt(20)};
        return agree(method("setWind"), wind) && agree(method("saveSnapshot"), new Object[0]);
    }

    private boolean agreeOnInput(String input) throws IllegalAccessException {
        for (char character : input.toCharArray()) {
            if (!agree(method("appendInput"), new Object[] {character})) {
                return false;
            }
        }
        return random.nextInt(20) == 0 || agree(method("execute"), new Object[0]);
    }

    private boolean agree(Method method, Object[] arguments) throws IllegalAccessException {
        calls.add(method.getName() + Arrays.toString(arguments));
        Object got = answer(method, farm, arguments);
        Object due = answer(MODELS.get(method.getName()), model, arguments);
        if (got.equals(due)) {
            return true;
        }
        System.out.println(calls);
        System.out.println("answered " + got + ", the model answers " + due);
        return false;
    }

    private static Object answer(Method method, Object object, Object[] arguments) throws IllegalAccessException {
        try {
            return method.invoke(object, arguments);
        } catch (InvocationTargetException thrown) {
            return thrown.getCause().getClass();
        }
    }

    private Object[] argumentsOf(Method method) {
        Class<?>[] types = method.getParameterTypes();
        Object[] arguments = new Object[types.length];
        int[] tops = topsOf(method.getName());
        for (int at = 0; at < types.length; at++) {
            arguments[at] = types[at] == char.class ? (Object) randomCharacter(method.getName()) : (Object) upTo(tops[at]);
        }
        return arguments;
    }

    private int lastTurbine() {
        return Math.max(0, model.turbineCount() - 1);
    }

    private int[] topsOf(String name) {
        int turbine = lastTurbine();
        switch (name) {
            case "addTurbine":
                return new int[] {4, 5, 9};
            case "turbineAt":
                return new int[] {4, 5};
            case "sendCrew":
                return new int[] {turbine, 12};
            case "curtail":
                return new int[] {turbine, 90};
            case "setWind":
            case "outputWith":
                return new int[] {0, 30};
            case "setGridLimit":
                return new int[] {999};
            case "placeBid":
                return new int[] {23, 50, 500};
            case "passHours":
            case "incomeWithin":
                return new int[] {48};
            case "withdrawBid":
            case "hasBid":
            case "bidPrice":
            case "bidQuantity":
            case "bidByPrice":
                return new int[] {23};
            case "outputAt":
                return new int[] {15};
            default:
                return new int[] {turbine};
        }
    }

    /** Mostly from 0 up to the top; now and then small, or just outside, or far away. */
    private int upTo(int top) {
        int kind = random.nextInt(isWild ? 12 : 40);
        if (kind == 0) {
            return top + 1;
        }
        if (kind == 1) {
            return -1;
        }
        if (kind == 2) {
            return random.nextInt();
        }
        return random.nextInt(kind % 2 == 0 ? Math.min(top, 5) + 1 : top + 1);
    }

    private char randomCharacter(String name) {
        if (random.nextInt(20) == 0) {
            return (char) random.nextInt(300);
        }
        String characters = name.equals("appendInput") ? "abcdfgqrstuvwNESW0123456789:;*" : "NESW";
        return characters.charAt(random.nextInt(characters.length()));
    }

    private String randomInput() {
        StringBuilder input = new StringBuilder();
        int commands = 1 + random.nextInt(random.nextInt(8) == 0 ? 12 : 4);
        for (int command = 0; command < commands; command++) {
            input.append(command == 0 ? "" : ";").append(randomCommand());
        }
        if (random.nextInt(4) == 0) {
            damage(input);
        }
        return input.length() > 62 ? input.substring(0, 62) : input.toString();
    }

    private void damage(StringBuilder input) {
        int at = random.nextInt(input.length());
        switch (random.nextInt(4)) {
            case 0 -> input.setLength(at);
            case 1 -> input.insert(at, (char) (32 + random.nextInt(95)));
            case 2 -> input.setCharAt(at, "0:;*aNtd".charAt(random.nextInt(8)));
            default -> input.append(";0:*d1".charAt(random.nextInt(6)));
        }
    }

    private String randomCommand() {
        switch (random.nextInt(13)) {
            case 0:
            case 1:
                return "a" + random.nextInt(5) + random.nextInt(6) + (random.nextInt(12) == 0 ? 0 : 1 + random.nextInt(9));
            case 2:
                return "f" + number(lastTurbine());
            case 3:
                return "s" + number(lastTurbine()) + ":" + number(12);
            case 4:
                return "r" + number(lastTurbine());
            case 5:
                return "c" + number(lastTurbine()) + ":" + number(90);
            case 6:
                return "u" + number(lastTurbine());
            case 7:
                return "w" + "NESW".charAt(random.nextInt(4)) + number(30);
            case 8:
                return "g" + number(999);
            case 9:
                return random.nextBoolean() ? "d" : "v";
            case 10:
                return "b" + number(23) + ":" + number(50) + "*" + number(500);
            case 11:
                return "q" + number(23);
            default:
                return "t" + number(48);
        }
    }

    private String number(int top) {
        int number = random.nextInt(40) == 0 ? random.nextInt(1000) : random.nextInt(random.nextBoolean() ? top + 1 : 4);
        return random.nextInt(10) == 0 ? String.format("%03d", number) : String.valueOf(number);
    }
}
