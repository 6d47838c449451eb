import java.util.ArrayDeque;
import java.util.ArrayList;
import java.util.Arrays;
import java.util.Comparator;
import java.util.Deque;
import java.util.List;
import java.util.Map;
import java.util.NoSuchElementException;
import java.util.TreeMap;
import java.util.regex.Matcher;
import java.util.regex.Pattern;

/**
 * The document once more, written plainly with the Java library and in another way than the program, to
 * compare the answers of both. Its methods bear the names of the program's methods.
 */
final class Model {
    private static final String COMMAND =
            "(?:a\\d\\d\\d|[frugqt]#|[sc]#:#|w[NESW]#|[dv]|b#:#\\*#)".replace("#", "\\d{1,3}");
    private static final Pattern INPUT = Pattern.compile(COMMAND + "(?:;" + COMMAND + ")*");

    private static final class Turbine {
        int row;
        int column;
        int rated;
        String state = "running";
        Integer limit;
        int hours;

        Turbine copy() {
            Turbine copy = new Turbine();
            copy.row = row;
            copy.column = column;
            copy.rated = rated;
            copy.state = state;
            copy.limit = limit;
            copy.hours = hours;
            return copy;
        }
    }

    private static final class Data {
        List<Turbine> turbines = new ArrayList<>();
        Map<Integer, int[]> bids = new TreeMap<>();
        char direction = 'N';
        int speed;
        int grid = 999;
        int time;
        long made;
        long lost;
        long sold;
        long spilled;
        long coins;

        Data copy() {
            Data copy = new Data();
            turbines.forEach(turbine -> copy.turbines.add(turbine.copy()));
            copy.bids.putAll(bids);
            copy.direction = direction;
            copy.speed = speed;
            copy.grid = grid;
            copy.time = time;
            copy.made = made;
            copy.lost = lost;
            copy.sold = sold;
            copy.spilled = spilled;
            copy.coins = coins;
            return copy;
        }
    }

    private Data data = new Data();
    private Data snapshot;
    private final Deque<Data> past = new ArrayDeque<>();
    private boolean inCommand;
    private String input = "";
    private String output = "";
    private int[] rejection;
    private Integer offset;

    // ---- changes

    public int addTurbine(int row, int column, int rated) {
        cell(row, column);
        range(rated, 1, 9);
        if (data.turbines.size() == 12) {
            reject(1, 12);
        }
        if (at(data, row, column) != null) {
            reject(2, data.turbines.indexOf(at(data, row, column)));
        }
        change();
        Turbine turbine = new Turbine();
        turbine.row = row;
        turbine.column = column;
        turbine.rated = rated;
        data.turbines.add(turbine);
        return data.turbines.size() - 1;
    }

    public int fail(int turbine) {
        running(turbine);
        change();
        get(turbine).state = "failed";
        get(turbine).limit = null;
        return data.turbines.size() - count("running");
    }

    public int sendCrew(int turbine, int hours) {
        get(turbine);
        range(hours, 1, 12);
        if (!isFailed(turbine)) {
            reject(4, outputOf(turbine));
        }
        if (freeCrews() == 0) {
            for (int index = 0; ; index++) {
                if (isInService(index)) {
                    reject(5, index);
                }
            }
        }
        change();
        get(turbine).state = "service";
        get(turbine).hours = hours;
        return freeCrews();
    }

    public int recallCrew(int turbine) {
        if (!isInService(turbine)) {
            reject(6, outputOf(turbine));
        }
        change();
        get(turbine).state = "failed";
        return get(turbine).hours;
    }

    public int curtail(int turbine, int limit) {
        get(turbine);
        range(limit, 0, 90);
        running(turbine);
        change();
        get(turbine).limit = limit;
        return outputOf(turbine);
    }

    public int release(int turbine) {
        running(turbine);
        if (get(turbine).limit == null) {
            reject(7, outputOf(turbine));
        }
        change();
        get(turbine).limit = null;
        return outputOf(turbine);
    }

    public int setWind(char direction, int speed) {
        outputWith(direction, speed);
        change();
        data.direction = direction;
        data.speed = speed;
        return totalOutput();
    }

    public int setGridLimit(int limit) {
        range(limit, 0, 999);
        change();
        int previous = data.grid;
        data.grid = limit;
        return previous;
    }

    public int dispatch() {
        change();
        int steps = 0;
        while (totalOutput() > data.grid) {
            int most = -1;
            for (Turbine turbine : data.turbines) {
                most = Math.max(most, output(data, turbine));
            }
            for (Turbine turbine : data.turbines) {
                if (output(data, turbine) == most) {
                    turbine.limit = Math.max(0, most - (totalOutput() - data.grid));
                    break;
                }
            }
            steps++;
        }
        return steps;
    }

    public int releaseAll() {
        change();
        int ended = 0;
        for (Turbine turbine : data.turbines) {
            ended += turbine.limit == null ? 0 : 1;
            turbine.limit = null;
        }
        return ended;
    }

    public int placeBid(int hour, int price, int quantity) {
        hasBid(hour);
        range(price, 1, 50);
        range(quantity, 1, 500);
        if (hasBid(hour)) {
            reject(8, bidPrice(hour));
        }
        change();
        data.bids.put(hour, new int[] {price, quantity});
        return data.bids.size();
    }

    public int withdrawBid(int hour) {
        if (!hasBid(hour)) {
            reject(9, data.bids.size());
        }
        change();
        return data.bids.remove(hour)[1];
    }

    public int passHours(int hours) {
        range(hours, 1, 48);
        change();
        long before = data.sold;
        for (int hour = 0; hour < hours; hour++) {
            passHour();
        }
        return (int) (data.sold - before);
    }

    private void passHour() {
        int energy = totalOutput();
        data.made += energy;
        int rest = energy;
        while (rest * 20 > energy * 19 && (energy - rest + 1) * 20 <= energy) {
            rest--;
        }
        data.lost += energy - rest;
        int[] bid = data.bids.get(data.time % 24);
        for (int unit = 0; bid != null && unit < bid[1]; unit++) {
            if (rest > 0) {
                rest--;
                data.sold++;
                data.coins += bid[0];
            } else {
                data.coins -= bid[0];
            }
        }
        data.spilled += rest;
        for (Turbine turbine : data.turbines) {
            if (turbine.state.equals("service") && --turbine.hours == 0) {
                turbine.state = "running";
            }
        }
        data.time++;
    }

    // ---- turbines

    public int turbineCount() {
        return data.turbines.size();
    }

    public int turbineAt(int row, int column) {
        cell(row, column);
        Turbine turbine = at(data, row, column);
        if (turbine == null) {
            throw new NoSuchElementException();
        }
        return data.turbines.indexOf(turbine);
    }

    public int rowOf(int turbine) {
        return get(turbine).row;
    }

    public int columnOf(int turbine) {
        return get(turbine).column;
    }

    public int ratedPower(int turbine) {
        return get(turbine).rated;
    }

    public boolean isRunning(int turbine) {
        return get(turbine).state.equals("running");
    }

    public boolean isFailed(int turbine) {
        return get(turbine).state.equals("failed");
    }

    public boolean isInService(int turbine) {
        return get(turbine).state.equals("service");
    }

    public int limitOf(int turbine) {
        if (get(turbine).limit == null) {
            throw new NoSuchElementException();
        }
        return get(turbine).limit;
    }

    public int serviceHoursLeft(int turbine) {
        if (!isInService(turbine)) {
            throw new NoSuchElementException();
        }
        return get(turbine).hours;
    }

    public int freeCrews() {
        return 2 - count("service");
    }

    // ---- wind

    public char windDirection() {
        return data.direction;
    }

    public int windSpeed() {
        return data.speed;
    }

    public int powerFactor() {
        return Character.digit("000225558888aaaaaaaaaaa00000000".charAt(data.speed), 16);
    }

    public int wakeLoss(int turbine) {
        return loss(data, get(turbine));
    }

    public int availablePower(int turbine) {
        Turbine unlimited = get(turbine).copy();
        unlimited.limit = null;
        return output(data, unlimited);
    }

    public int outputOf(int turbine) {
        return output(data, get(turbine));
    }

    public int totalOutput() {
        return data.turbines.stream().mapToInt(turbine -> output(data, turbine)).sum();
    }

    public int totalOutputByLines() {
        return totalOutput();
    }

    public int outputWith(char direction, int speed) {
        if ("NESW".indexOf(direction) < 0) {
            throw new IllegalArgumentException();
        }
        range(speed, 0, 30);
        Data present = data;
        data = data.copy();
        data.direction = direction;
        data.speed = speed;
        int sum = totalOutput();
        data = present;
        return sum;
    }

    public char bestDirection() {
        int most = 0;
        for (char direction : "NESW".toCharArray()) {
            most = Math.max(most, outputWith(direction, data.speed));
        }
        for (char direction : "NESW".toCharArray()) {
            if (outputWith(direction, data.speed) == most) {
                return direction;
            }
        }
        throw new AssertionError();
    }

    // ---- bids and accounts

    public int gridLimit() {
        return data.grid;
    }

    public boolean hasBid(int hour) {
        if (hour < 0 || hour > 23) {
            throw new IndexOutOfBoundsException();
        }
        return data.bids.containsKey(hour);
    }

    public int bidPrice(int hour) {
        return bid(hour)[0];
    }

    public int bidQuantity(int hour) {
        return bid(hour)[1];
    }

    public int bidByPrice(int position) {
        List<Integer> hours = new ArrayList<>(data.bids.keySet());
        hours.sort(Comparator.comparingInt((Integer hour) -> -data.bids.get(hour)[0])
                .thenComparingInt(hour -> -data.bids.get(hour)[1]));
        return pick(hours, position);
    }

    public int time() {
        return data.time;
    }

    public int incomeWithin(int hours) {
        range(hours, 1, 48);
        Data present = data;
        data = data.copy();
        for (int hour = 0; hour < hours; hour++) {
            passHour();
        }
        long income = data.coins - present.coins;
        data = present;
        return (int) income;
    }

    public int hoursToBid() {
        if (data.bids.isEmpty()) {
            throw new NoSuchElementException();
        }
        int hours = 0;
        while (!data.bids.containsKey((data.time + hours) % 24)) {
            hours++;
        }
        return hours;
    }

    public long energyMade() {
        return data.made;
    }

    public long energyLost() {
        return data.lost;
    }

    public long energySold() {
        return data.sold;
    }

    public long energySpilled() {
        return data.spilled;
    }

    public long coins() {
        return data.coins;
    }

    public int turbineByOutput(int position) {
        List<Integer> order = new ArrayList<>();
        for (int turbine = 0; turbine < data.turbines.size(); turbine++) {
            order.add(turbine);
        }
        order.sort(Comparator.comparingInt((Integer turbine) -> -outputOf(turbine))
                .thenComparingInt(turbine -> -ratedPower(turbine)));
        return pick(order, position);
    }

    public double meanOutput() {
        if (data.turbines.isEmpty()) {
            throw new ArithmeticException();
        }
        return (double) totalOutput() / (double) turbineCount();
    }

    public float runningShare() {
        if (data.turbines.isEmpty()) {
            throw new ArithmeticException();
        }
        return (float) count("running") / (float) turbineCount();
    }

    public boolean isConsistent() {
        return true;
    }

    // ---- text

    public int writeTurbine(int turbine) {
        Turbine shown = get(turbine);
        output = turbine + "@" + shown.row + "," + shown.column + "p" + shown.rated + "=" + outputOf(turbine)
                + (shown.limit != null ? "<" + shown.limit : "")
                + (isFailed(turbine) ? "x" : "")
                + (isInService(turbine) ? "s" + shown.hours : "");
        return output.length();
    }

    public char outputAt(int index) {
        if (index < 0 || index >= output.length()) {
            throw new IndexOutOfBoundsException();
        }
        return output.charAt(index);
    }

    public int appendInput(char character) {
        range(character, ' ', '~');
        if (input.length() == 60) {
            throw new IllegalStateException();
        }
        input += character;
        return input.length();
    }

    public int execute() {
        String commands = input;
        input = "";
        if (!INPUT.matcher(commands).matches()) {
            offset = firstError(commands);
            throw new IllegalArgumentException();
        }
        Data present = data;
        data = data.copy();
        inCommand = true;
        int number = 0;
        int[] earlier = rejection;
        try {
            for (String command : commands.split(";")) {
                perform(command);
                number++;
            }
            past.push(present);
            keepEight();
            return number;
        } catch (UnsupportedOperationException rejected) {
            data = present;
            rejection = new int[] {10, number, rejection[0]};
            throw rejected;
        } catch (IndexOutOfBoundsException | IllegalArgumentException unfit) {
            data = present;
            rejection = earlier;
            throw new IllegalStateException();
        } finally {
            inCommand = false;
        }
    }

    /** The longest beginning that some input has is what comes ahead of the error. */
    private static int firstError(String commands) {
        for (int length = 1; length <= commands.length(); length++) {
            Matcher matcher = INPUT.matcher(commands.substring(0, length));
            if (!matcher.matches() && !matcher.hitEnd()) {
                return length - 1;
            }
        }
        return commands.length();
    }

    private void perform(String command) {
        String[] parts = command.substring(1).split("[:*]");
        int[] numbers = Arrays.stream(parts).map(part -> part.replaceAll("\\D", ""))
                .mapToInt(part -> part.isEmpty() ? 0 : Integer.parseInt(part)).toArray();
        switch (command.charAt(0)) {
            case 'a' -> addTurbine(command.charAt(1) - '0', command.charAt(2) - '0', command.charAt(3) - '0');
            case 'f' -> fail(numbers[0]);
            case 's' -> sendCrew(numbers[0], numbers[1]);
            case 'r' -> recallCrew(numbers[0]);
            case 'c' -> curtail(numbers[0], numbers[1]);
            case 'u' -> release(numbers[0]);
            case 'w' -> setWind(command.charAt(1), numbers[0]);
            case 'g' -> setGridLimit(numbers[0]);
            case 'd' -> dispatch();
            case 'v' -> releaseAll();
            case 'b' -> placeBid(numbers[0], numbers[1], numbers[2]);
            case 'q' -> withdrawBid(numbers[0]);
            case 't' -> passHours(numbers[0]);
            default -> throw new AssertionError(command);
        }
    }

    public int syntaxErrorOffset() {
        if (offset == null) {
            throw new NoSuchElementException();
        }
        return offset;
    }

    // ---- rejections and history

    public int rejectionReason() {
        return rejection()[0];
    }

    public int rejectionDetail() {
        return rejection()[1];
    }

    public int causeReason() {
        if (rejection()[0] != 10) {
            throw new NoSuchElementException();
        }
        return rejection()[2];
    }

    public int undo() {
        if (past.isEmpty()) {
            throw new IllegalStateException();
        }
        data = past.pop();
        return past.size();
    }

    public int saveSnapshot() {
        snapshot = data.copy();
        return turbineCount();
    }

    public int restoreSnapshot() {
        if (snapshot == null) {
            throw new IllegalStateException();
        }
        data = snapshot.copy();
        past.clear();
        return turbineCount();
    }

    // ---- helpers

    private void change() {
        if (!inCommand) {
            past.push(data.copy());
            keepEight();
        }
    }

    private void keepEight() {
        while (past.size() > 8) {
            past.removeLast();
        }
    }

    private void reject(int reason, int detail) {
        rejection = new int[] {reason, detail, 0};
        throw new UnsupportedOperationException();
    }

    private int[] rejection() {
        if (rejection == null) {
            throw new NoSuchElementException();
        }
        return rejection;
    }

    private Turbine get(int turbine) {
        if (turbine < 0 || turbine >= data.turbines.size()) {
            throw new IndexOutOfBoundsException();
        }
        return data.turbines.get(turbine);
    }

    private void running(int turbine) {
        if (!isRunning(turbine)) {
            reject(3, isFailed(turbine) ? 0 : get(turbine).hours);
        }
    }

    private int count(String state) {
        return (int) data.turbines.stream().filter(turbine -> turbine.state.equals(state)).count();
    }

    private int[] bid(int hour) {
        if (!hasBid(hour)) {
            throw new NoSuchElementException();
        }
        return data.bids.get(hour);
    }

    private static int pick(List<Integer> list, int position) {
        if (position < 0 || position >= list.size()) {
            throw new NoSuchElementException();
        }
        return list.get(position);
    }

    private static void range(int number, int least, int most) {
        if (number < least || number > most) {
            throw new IllegalArgumentException();
        }
    }

    private static void cell(int row, int column) {
        if (row < 0 || row > 4 || column < 0 || column > 5) {
            throw new IndexOutOfBoundsException();
        }
    }

    private static Turbine at(Data data, int row, int column) {
        for (Turbine turbine : data.turbines) {
            if (turbine.row == row && turbine.column == column) {
                return turbine;
            }
        }
        return null;
    }

    private static int loss(Data data, Turbine turbine) {
        int down = data.direction == 'N' ? -1 : data.direction == 'S' ? 1 : 0;
        int right = data.direction == 'W' ? -1 : data.direction == 'E' ? 1 : 0;
        int loss = 0;
        for (int distance = 1; distance <= 2; distance++) {
            Turbine other = at(data, turbine.row + distance * down, turbine.column + distance * right);
            if (other != null && other.state.equals("running")) {
                loss += distance == 1 ? 3 : 1;
            }
        }
        return loss;
    }

    private int output(Data data, Turbine turbine) {
        if (!turbine.state.equals("running")) {
            return 0;
        }
        int power = Math.max(0, turbine.rated * (powerFactor() - loss(data, turbine)));
        return turbine.limit == null ? power : Math.min(power, turbine.limit);
    }
}
