import java.util.NoSuchElementException;

/** A dispatcher for a wind farm; what it promises stands in the document of the project. */
public final class WindFarmDispatcher {
    public static final int TURBINE_LIMIT = 1;
    public static final int CELL_TAKEN = 2;
    public static final int NOT_RUNNING = 3;
    public static final int NOT_FAILED = 4;
    public static final int NO_CREW = 5;
    public static final int NOT_IN_SERVICE = 6;
    public static final int NOT_CURTAILED = 7;
    public static final int BID_EXISTS = 8;
    public static final int NO_BID = 9;
    public static final int COMMAND_REJECTED = 10;

    // What a change is found to be, beside the reasons for which it is rejected.
    private static final int FINE = 0;
    private static final int NO_SUCH_THING = -1;
    private static final int OUT_OF_RANGE = -2;

    // The changes are named by the letters of their commands, so that a call and a command go the same way.
    private static final char ADD = 'a';
    private static final char FAIL = 'f';
    private static final char SEND = 's';
    private static final char RECALL = 'r';
    private static final char CURTAIL = 'c';
    private static final char RELEASE = 'u';
    private static final char WIND = 'w';
    private static final char GRID = 'g';
    private static final char DISPATCH = 'd';
    private static final char RELEASE_ALL = 'v';
    private static final char BID = 'b';
    private static final char WITHDRAW = 'q';
    private static final char PASS = 't';

    private static final String DIRECTIONS = "NESW";
    private static final int ROWS = 5;
    private static final int COLUMNS = 6;
    private static final int TURBINES = 12;
    private static final int CREWS = 2;
    private static final int HOURS_OF_DAY = 24;
    private static final int HOURS_AT_ONCE = 48;
    private static final int GREATEST_GRID_LIMIT = 999;
    private static final int UNDO_DEPTH = 8;
    private static final int TEXT_LENGTH = 60;

    private final Farm farm;
    private final Farm trial;
    private final Farm snapshot;
    private final History history;
    private final CommandReader reader;
    private final Text output;
    private boolean hasSnapshot;
    private int syntaxOffset;
    private int reason;
    private int detail;
    private int cause;

    public WindFarmDispatcher() {
        farm = new Farm();
        trial = new Farm();
        snapshot = new Farm();
        history = new History();
        reader = new CommandReader();
        output = new Text();
        syntaxOffset = -1;
    }

    // ---- turbines

    public int addTurbine(int row, int column, int rated)
            throws IndexOutOfBoundsException, IllegalArgumentException, UnsupportedOperationException {
        admit(ADD, row, column, rated);
        return farm.add(row, column, rated);
    }

    public int fail(int turbine) throws IndexOutOfBoundsException, UnsupportedOperationException {
        admit(FAIL, turbine, 0, 0);
        return farm.breakDown(turbine);
    }

    public int sendCrew(int turbine, int hours)
            throws IndexOutOfBoundsException, IllegalArgumentException, UnsupportedOperationException {
        admit(SEND, turbine, hours, 0);
        return farm.startService(turbine, hours);
    }

    public int recallCrew(int turbine) throws IndexOutOfBoundsException, UnsupportedOperationException {
        admit(RECALL, turbine, 0, 0);
        return farm.stopService(turbine);
    }

    public int curtail(int turbine, int limit)
            throws IndexOutOfBoundsException, IllegalArgumentException, UnsupportedOperationException {
        admit(CURTAIL, turbine, limit, 0);
        return farm.changeLimit(turbine, limit);
    }

    public int release(int turbine) throws IndexOutOfBoundsException, UnsupportedOperationException {
        admit(RELEASE, turbine, 0, 0);
        return farm.endLimit(turbine);
    }

    public int turbineCount() {
        return farm.count;
    }

    public int turbineAt(int row, int column) throws IndexOutOfBoundsException, NoSuchElementException {
        if (!isCell(row, column)) {
            throw new IndexOutOfBoundsException("no such cell");
        }
        int turbine = farm.turbineIn(row, column);
        if (turbine < 0) {
            throw new NoSuchElementException("the cell is empty");
        }
        return turbine;
    }

    public int rowOf(int turbine) throws IndexOutOfBoundsException {
        requireTurbine(turbine);
        return valueAt(farm.rows, turbine);
    }

    public int columnOf(int turbine) throws IndexOutOfBoundsException {
        requireTurbine(turbine);
        return valueAt(farm.columns, turbine);
    }

    public int ratedPower(int turbine) throws IndexOutOfBoundsException {
        requireTurbine(turbine);
        return valueAt(farm.rated, turbine);
    }

    public boolean isRunning(int turbine) throws IndexOutOfBoundsException {
        requireTurbine(turbine);
        return farm.isInState(turbine, Farm.RUNNING);
    }

    public boolean isFailed(int turbine) throws IndexOutOfBoundsException {
        requireTurbine(turbine);
        return farm.isInState(turbine, Farm.FAILED);
    }

    public boolean isInService(int turbine) throws IndexOutOfBoundsException {
        requireTurbine(turbine);
        return farm.isInState(turbine, Farm.IN_SERVICE);
    }

    public int limitOf(int turbine) throws IndexOutOfBoundsException, NoSuchElementException {
        requireTurbine(turbine);
        if (!farm.isCurtailed(turbine)) {
            throw new NoSuchElementException("the turbine is not curtailed");
        }
        return valueAt(farm.limits, turbine);
    }

    public int serviceHoursLeft(int turbine) throws IndexOutOfBoundsException, NoSuchElementException {
        requireTurbine(turbine);
        if (!farm.isInState(turbine, Farm.IN_SERVICE)) {
            throw new NoSuchElementException("the turbine is not in service");
        }
        return valueAt(farm.serviceHours, turbine);
    }

    public int freeCrews() {
        return farm.crewsLeft();
    }

    // ---- wind and wakes

    public int setWind(char direction, int speed) throws IllegalArgumentException {
        admit(WIND, direction, speed, 0);
        return farm.turnWind(direction, speed);
    }

    public char windDirection() {
        return farm.direction;
    }

    public int windSpeed() {
        return farm.speed;
    }

    public int powerFactor() {
        return factorOf(farm.speed);
    }

    public int wakeLoss(int turbine) throws IndexOutOfBoundsException {
        requireTurbine(turbine);
        return farm.lossIn(turbine, farm.direction);
    }

    public int availablePower(int turbine) throws IndexOutOfBoundsException {
        requireTurbine(turbine);
        return farm.powerAfter(turbine, farm.speed, farm.lossIn(turbine, farm.direction));
    }

    public int outputOf(int turbine) throws IndexOutOfBoundsException {
        requireTurbine(turbine);
        return farm.outputIn(turbine, farm.direction, farm.speed);
    }

    public int totalOutput() {
        return farm.sumIn(farm.direction, farm.speed);
    }

    public int totalOutputByLines() {
        return farm.sumByLines();
    }

    public int outputWith(char direction, int speed) throws IllegalArgumentException {
        if (!isWind(direction, speed)) {
            throw new IllegalArgumentException("no such wind");
        }
        return farm.sumIn(direction, speed);
    }

    public char bestDirection() {
        char best = 'N';
        int most = -1;
        for (int index = 0; index < DIRECTIONS.length(); index++) {
            char direction = DIRECTIONS.charAt(index);
            int sum = farm.sumIn(direction, farm.speed);
            if (sum > most) {
                most = sum;
                best = direction;
            }
        }
        return best;
    }

    // ---- curtailment and bids

    public int setGridLimit(int limit) throws IllegalArgumentException {
        admit(GRID, limit, 0, 0);
        return farm.changeGridLimit(limit);
    }

    public int gridLimit() {
        return farm.gridLimit;
    }

    public int dispatch() {
        admit(DISPATCH, 0, 0, 0);
        return farm.limitToGrid();
    }

    public int releaseAll() {
        admit(RELEASE_ALL, 0, 0, 0);
        return farm.endAllLimits();
    }

    public int placeBid(int hour, int price, int quantity)
            throws IndexOutOfBoundsException, IllegalArgumentException, UnsupportedOperationException {
        admit(BID, hour, price, quantity);
        return farm.addBid(hour, price, quantity);
    }

    public int withdrawBid(int hour) throws IndexOutOfBoundsException, UnsupportedOperationException {
        admit(WITHDRAW, hour, 0, 0);
        return farm.removeBid(hour);
    }

    public boolean hasBid(int hour) throws IndexOutOfBoundsException {
        requireHour(hour);
        return farm.isBidFor(hour);
    }

    public int bidPrice(int hour) throws IndexOutOfBoundsException, NoSuchElementException {
        requireBid(hour);
        return valueAt(farm.prices, hour);
    }

    public int bidQuantity(int hour) throws IndexOutOfBoundsException, NoSuchElementException {
        requireBid(hour);
        return valueAt(farm.quantities, hour);
    }

    public int bidByPrice(int position) throws NoSuchElementException {
        for (int hour = 0; hour < HOURS_OF_DAY; hour++) {
            if (farm.isBidFor(hour) && farm.bidsAheadOf(hour) == position) {
                return hour;
            }
        }
        throw new NoSuchElementException("no bid at this position");
    }

    // ---- hours

    public int passHours(int hours) throws IllegalArgumentException {
        admit(PASS, hours, 0, 0);
        return farm.pass(hours);
    }

    public int time() {
        return farm.hoursPassed;
    }

    public int incomeWithin(int hours) throws IllegalArgumentException {
        if (!isWithin(hours, 1, HOURS_AT_ONCE)) {
            throw new IllegalArgumentException("hours are out of range");
        }
        trial.copyFrom(farm);
        trial.pass(hours);
        return (int) (trial.coins - farm.coins);
    }

    public int hoursToBid() throws NoSuchElementException {
        for (int hours = 0; hours < HOURS_OF_DAY; hours++) {
            if (farm.isBidFor((farm.hoursPassed + hours) % HOURS_OF_DAY)) {
                return hours;
            }
        }
        throw new NoSuchElementException("there are no bids");
    }

    // ---- accounts and orders

    public long energyMade() {
        return farm.made;
    }

    public long energyLost() {
        return farm.lost;
    }

    public long energySold() {
        return farm.sold;
    }

    public long energySpilled() {
        return farm.spilled;
    }

    public long coins() {
        return farm.coins;
    }

    public int turbineByOutput(int position) throws NoSuchElementException {
        for (int turbine = 0; turbine < farm.count; turbine++) {
            if (farm.turbinesAheadOf(turbine) == position) {
                return turbine;
            }
        }
        throw new NoSuchElementException("no turbine at this position");
    }

    public double meanOutput() throws ArithmeticException {
        if (farm.count <= 0) {
            throw new ArithmeticException("there are no turbines");
        }
        return (double) farm.sumIn(farm.direction, farm.speed) / (double) farm.count;
    }

    public float runningShare() throws ArithmeticException {
        if (farm.count <= 0) {
            throw new ArithmeticException("there are no turbines");
        }
        return (float) farm.countInState(Farm.RUNNING) / (float) farm.count;
    }

    public boolean isConsistent() {
        return farm.sumIn(farm.direction, farm.speed) == farm.sumByLines()
                && farm.made == farm.lost + farm.sold + farm.spilled
                && farm.crewsLeft() >= 0;
    }

    // ---- text output

    public int writeTurbine(int turbine) throws IndexOutOfBoundsException {
        requireTurbine(turbine);
        output.clear();
        output.addNumber(turbine);
        writeNumber('@', valueAt(farm.rows, turbine));
        writeNumber(',', valueAt(farm.columns, turbine));
        writeNumber('p', valueAt(farm.rated, turbine));
        writeNumber('=', farm.outputIn(turbine, farm.direction, farm.speed));
        if (farm.isCurtailed(turbine)) {
            writeNumber('<', valueAt(farm.limits, turbine));
        } else if (farm.isInState(turbine, Farm.FAILED)) {
            output.add('x');
        } else if (farm.isInState(turbine, Farm.IN_SERVICE)) {
            writeNumber('s', valueAt(farm.serviceHours, turbine));
        }
        return output.length;
    }

    public char outputAt(int index) throws IndexOutOfBoundsException {
        if (!isWithin(index, 0, output.length - 1)) {
            throw new IndexOutOfBoundsException("no character at this index");
        }
        return output.signAt(index);
    }

    // ---- commands

    public int appendInput(char character) throws IllegalArgumentException, IllegalStateException {
        if (!isWithin(character, 32, 126)) {
            throw new IllegalArgumentException("the character is out of range");
        }
        if (reader.input.length >= TEXT_LENGTH) {
            throw new IllegalStateException("the input is full");
        }
        reader.input.add(character);
        return reader.input.length;
    }

    public int execute() throws IllegalArgumentException, IllegalStateException, UnsupportedOperationException {
        int commands = reader.countCommands();
        if (commands == 0) {
            syntaxOffset = reader.position;
            reader.input.clear();
            throw new IllegalArgumentException("the input has a syntax error");
        }
        trial.copyFrom(farm);
        reader.restart();
        for (int number = 0; number < commands; number++) {
            reader.readNext();
            int first = reader.argument(0);
            int second = reader.argument(1);
            int third = reader.argument(2);
            int verdict = trial.judge(reader.order, first, second, third);
            if (verdict != FINE) {
                reader.input.clear();
                refuseCommand(verdict, number);
            }
            trial.carryOut(reader.order, first, second, third);
        }
        reader.input.clear();
        history.keep(farm);
        farm.copyFrom(trial);
        return commands;
    }

    public int syntaxErrorOffset() throws NoSuchElementException {
        if (syntaxOffset < 0) {
            throw new NoSuchElementException("there was no syntax error");
        }
        return syntaxOffset;
    }

    // ---- rejections and history

    public int rejectionReason() throws NoSuchElementException {
        requireRejection();
        return reason;
    }

    public int rejectionDetail() throws NoSuchElementException {
        requireRejection();
        return detail;
    }

    public int causeReason() throws NoSuchElementException {
        if (reason != COMMAND_REJECTED) {
            throw new NoSuchElementException("no command was rejected");
        }
        return cause;
    }

    public int undo() throws IllegalStateException {
        if (history.size <= 0) {
            throw new IllegalStateException("there is no change to undo");
        }
        history.takeBack(farm);
        return history.size;
    }

    public int saveSnapshot() {
        snapshot.copyFrom(farm);
        hasSnapshot = true;
        return farm.count;
    }

    public int restoreSnapshot() throws IllegalStateException {
        if (!hasSnapshot) {
            throw new IllegalStateException("there is no snapshot");
        }
        farm.copyFrom(snapshot);
        history.forget();
        return farm.count;
    }

    // ---- what the calls share

    /** Throws if a change may not be made; else it can be undone from here on. */
    private void admit(char order, int first, int second, int third)
            throws IndexOutOfBoundsException, IllegalArgumentException, UnsupportedOperationException {
        int verdict = farm.judge(order, first, second, third);
        if (verdict == NO_SUCH_THING) {
            throw new IndexOutOfBoundsException("no such turbine, cell or hour");
        }
        if (verdict == OUT_OF_RANGE) {
            throw new IllegalArgumentException("a number or a direction is out of range");
        }
        if (verdict != FINE) {
            reject(verdict, farm.detailOf(verdict, first, second), FINE);
            throw new UnsupportedOperationException("the call is rejected");
        }
        history.keep(farm);
    }

    /** Always throws. */
    private void refuseCommand(int verdict, int number) throws IllegalStateException, UnsupportedOperationException {
        if (verdict == NO_SUCH_THING || verdict == OUT_OF_RANGE) {
            throw new IllegalStateException("a command has something that its method does not accept");
        }
        reject(COMMAND_REJECTED, number, verdict);
        throw new UnsupportedOperationException("a command is rejected");
    }

    private void reject(int newReason, int newDetail, int newCause) {
        reason = newReason;
        detail = newDetail;
        cause = newCause;
    }

    private void requireTurbine(int turbine) throws IndexOutOfBoundsException {
        if (!farm.hasTurbine(turbine)) {
            throw new IndexOutOfBoundsException("no such turbine");
        }
    }

    private void requireHour(int hour) throws IndexOutOfBoundsException {
        if (!isHourOfDay(hour)) {
            throw new IndexOutOfBoundsException("no such hour of the day");
        }
    }

    private void requireBid(int hour) throws IndexOutOfBoundsException, NoSuchElementException {
        requireHour(hour);
        if (!farm.isBidFor(hour)) {
            throw new NoSuchElementException("there is no bid for this hour");
        }
    }

    private void requireRejection() throws NoSuchElementException {
        if (reason == FINE) {
            throw new NoSuchElementException("no call was rejected");
        }
    }

    private void writeNumber(char sign, int number) {
        output.add(sign);
        output.addNumber(number);
    }

    private static boolean isWithin(int number, int least, int most) {
        return number >= least && number <= most;
    }

    private static boolean isCell(int row, int column) {
        return isWithin(row, 0, ROWS - 1) && isWithin(column, 0, COLUMNS - 1);
    }

    private static boolean isHourOfDay(int hour) {
        return isWithin(hour, 0, HOURS_OF_DAY - 1);
    }

    private static boolean isDirection(int sign) {
        return sign == 'N' || sign == 'E' || sign == 'S' || sign == 'W';
    }

    private static boolean isWind(int direction, int speed) {
        return isDirection(direction) && isWithin(speed, 0, 30);
    }

    private static int factorOf(int speed) {
        if (speed < 3 || speed > 22) {
            return 0;
        }
        if (speed <= 4) {
            return 2;
        }
        if (speed <= 7) {
            return 5;
        }
        return speed <= 11 ? 8 : 10;
    }

    // Elements are read and written here, so that no index can ever be wrong.

    private static int valueAt(int[] row, int index) {
        return index >= 0 && index < row.length ? row[index] : 0;
    }

    private static void setValue(int[] row, int index, int value) {
        if (index >= 0 && index < row.length) {
            row[index] = value;
        }
    }

    /** The data of a farm: all that undo and the snapshot cover. */
    private static final class Farm {
        // No state is 0, so that a row without a turbine is in none of them.
        static final int RUNNING = 1;
        static final int FAILED = 2;
        static final int IN_SERVICE = 3;

        private static final int NO_LIMIT = -1;

        // Two empty cells stand round the grid, so that a look upwind needs no test for the edge.
        private static final int MARGIN = 2;
        private static final int PLACES_IN_ROW = COLUMNS + 2 * MARGIN;
        private static final int PLACES = (ROWS + 2 * MARGIN) * PLACES_IN_ROW;

        final int[] rows = new int[TURBINES];
        final int[] columns = new int[TURBINES];
        final int[] rated = new int[TURBINES];
        final int[] states = new int[TURBINES];
        final int[] limits = new int[TURBINES];
        final int[] serviceHours = new int[TURBINES];
        // A cell holds the index of its turbine plus 1.
        final int[] cells = new int[PLACES];
        final int[] prices = new int[HOURS_OF_DAY];
        // A quantity of 0 says that there is no bid.
        final int[] quantities = new int[HOURS_OF_DAY];
        int count;
        char direction = 'N';
        int speed;
        int gridLimit = GREATEST_GRID_LIMIT;
        int hoursPassed;
        long made;
        long lost;
        long sold;
        long spilled;
        long coins;

        void copyFrom(Farm other) {
            copyRow(other.rows, rows);
            copyRow(other.columns, columns);
            copyRow(other.rated, rated);
            copyRow(other.states, states);
            copyRow(other.limits, limits);
            copyRow(other.serviceHours, serviceHours);
            copyRow(other.cells, cells);
            copyRow(other.prices, prices);
            copyRow(other.quantities, quantities);
            count = other.count;
            direction = other.direction;
            speed = other.speed;
            gridLimit = other.gridLimit;
            hoursPassed = other.hoursPassed;
            made = other.made;
            lost = other.lost;
            sold = other.sold;
            spilled = other.spilled;
            coins = other.coins;
        }

        private static void copyRow(int[] from, int[] to) {
            for (int index = 0; index < from.length && index < to.length; index++) {
                to[index] = from[index];
            }
        }

        // -- what stands where, and in which state

        boolean hasTurbine(int turbine) {
            return turbine >= 0 && turbine < count;
        }

        int turbineIn(int row, int column) {
            return valueAt(cells, placeOf(row, column)) - 1;
        }

        boolean isInState(int turbine, int state) {
            return turbine >= 0 && turbine < states.length && states[turbine] == state;
        }

        boolean isCurtailed(int turbine) {
            return isInState(turbine, RUNNING) && valueAt(limits, turbine) != NO_LIMIT;
        }

        int countInState(int state) {
            int found = 0;
            for (int turbine = 0; turbine < count; turbine++) {
                if (isInState(turbine, state)) {
                    found++;
                }
            }
            return found;
        }

        int crewsLeft() {
            return CREWS - countInState(IN_SERVICE);
        }

        private int firstInService() {
            for (int turbine = 0; turbine < count; turbine++) {
                if (isInState(turbine, IN_SERVICE)) {
                    return turbine;
                }
            }
            return -1;
        }

        boolean isBidFor(int hour) {
            return valueAt(quantities, hour) > 0;
        }

        private int countBids() {
            int found = 0;
            for (int hour = 0; hour < HOURS_OF_DAY; hour++) {
                if (isBidFor(hour)) {
                    found++;
                }
            }
            return found;
        }

        private static int placeOf(int row, int column) {
            return (row + MARGIN) * PLACES_IN_ROW + column + MARGIN;
        }

        private static int stepTowards(char direction) {
            switch (direction) {
                case 'N':
                    return -PLACES_IN_ROW;
                case 'E':
                    return 1;
                case 'S':
                    return PLACES_IN_ROW;
                default:
                    return -1;
            }
        }

        // -- power

        int lossIn(int turbine, char from) {
            int place = placeOf(valueAt(rows, turbine), valueAt(columns, turbine));
            int step = stepTowards(from);
            int near = valueAt(cells, place + step) - 1;
            int far = valueAt(cells, place + 2 * step) - 1;
            return wakeOf(isInState(near, RUNNING), isInState(far, RUNNING));
        }

        private static int wakeOf(boolean isNearRunning, boolean isFarRunning) {
            return (isNearRunning ? 3 : 0) + (isFarRunning ? 1 : 0);
        }

        int powerAfter(int turbine, int windSpeed, int loss) {
            int share = factorOf(windSpeed) - loss;
            return share > 0 && isInState(turbine, RUNNING) ? valueAt(rated, turbine) * share : 0;
        }

        private int limited(int turbine, int power) {
            int limit = valueAt(limits, turbine);
            return limit == NO_LIMIT ? power : Math.min(limit, power);
        }

        int outputIn(int turbine, char from, int windSpeed) {
            return limited(turbine, powerAfter(turbine, windSpeed, lossIn(turbine, from)));
        }

        int sumIn(char from, int windSpeed) {
            int sum = 0;
            for (int turbine = 0; turbine < count; turbine++) {
                sum += outputIn(turbine, from, windSpeed);
            }
            return sum;
        }

        int sumByLines() {
            int lines = blowsAlongColumns() ? COLUMNS : ROWS;
            int sum = 0;
            for (int line = 0; line < lines; line++) {
                sum += sumOfLine(line);
            }
            return sum;
        }

        private int sumOfLine(int line) {
            int length = blowsAlongColumns() ? ROWS : COLUMNS;
            boolean isNearRunning = false;
            boolean isFarRunning = false;
            int sum = 0;
            for (int distance = 0; distance < length; distance++) {
                int turbine = turbineInLine(line, distance);
                int loss = wakeOf(isNearRunning, isFarRunning);
                sum += limited(turbine, powerAfter(turbine, speed, loss));
                isFarRunning = isNearRunning;
                isNearRunning = isInState(turbine, RUNNING);
            }
            return sum;
        }

        private boolean blowsAlongColumns() {
            return direction == 'N' || direction == 'S';
        }

        private int turbineInLine(int line, int distance) {
            switch (direction) {
                case 'N':
                    return turbineIn(distance, line);
                case 'E':
                    return turbineIn(line, COLUMNS - 1 - distance);
                case 'S':
                    return turbineIn(ROWS - 1 - distance, line);
                default:
                    return turbineIn(line, distance);
            }
        }

        // -- orders

        int turbinesAheadOf(int turbine) {
            int ahead = 0;
            for (int other = 0; other < count; other++) {
                if (isTurbineAhead(other, turbine)) {
                    ahead++;
                }
            }
            return ahead;
        }

        private boolean isTurbineAhead(int one, int other) {
            int difference = outputIn(one, direction, speed) - outputIn(other, direction, speed);
            if (difference == 0) {
                difference = valueAt(rated, one) - valueAt(rated, other);
            }
            return difference == 0 ? one < other : difference > 0;
        }

        int bidsAheadOf(int hour) {
            int ahead = 0;
            for (int other = 0; other < HOURS_OF_DAY; other++) {
                if (isBidFor(other) && isBidAhead(other, hour)) {
                    ahead++;
                }
            }
            return ahead;
        }

        private boolean isBidAhead(int one, int other) {
            int difference = valueAt(prices, one) - valueAt(prices, other);
            if (difference == 0) {
                difference = valueAt(quantities, one) - valueAt(quantities, other);
            }
            return difference == 0 ? one < other : difference > 0;
        }

        // -- whether a change may be made

        int judge(char order, int first, int second, int third) {
            switch (order) {
                case ADD:
                    return judgeAdding(first, second, third);
                case FAIL:
                case SEND:
                case RECALL:
                case CURTAIL:
                case RELEASE:
                    return hasTurbine(first) ? judgeTurbine(order, first, second) : NO_SUCH_THING;
                case BID:
                case WITHDRAW:
                    return isHourOfDay(first) ? judgeBid(order, first, second, third) : NO_SUCH_THING;
                case WIND:
                    return isWind(first, second) ? FINE : OUT_OF_RANGE;
                case GRID:
                    return isWithin(first, 0, GREATEST_GRID_LIMIT) ? FINE : OUT_OF_RANGE;
                case PASS:
                    return isWithin(first, 1, HOURS_AT_ONCE) ? FINE : OUT_OF_RANGE;
                default:
                    return FINE;
            }
        }

        private int judgeAdding(int row, int column, int power) {
            if (!isCell(row, column)) {
                return NO_SUCH_THING;
            }
            if (!isWithin(power, 1, 9)) {
                return OUT_OF_RANGE;
            }
            if (count >= TURBINES) {
                return TURBINE_LIMIT;
            }
            return turbineIn(row, column) >= 0 ? CELL_TAKEN : FINE;
        }

        private int judgeTurbine(char order, int turbine, int number) {
            boolean runs = isInState(turbine, RUNNING);
            switch (order) {
                case SEND:
                    return judgeSending(turbine, number);
                case RECALL:
                    return isInState(turbine, IN_SERVICE) ? FINE : NOT_IN_SERVICE;
                case CURTAIL:
                    if (!isWithin(number, 0, 90)) {
                        return OUT_OF_RANGE;
                    }
                    return runs ? FINE : NOT_RUNNING;
                case RELEASE:
                    if (!runs) {
                        return NOT_RUNNING;
                    }
                    return isCurtailed(turbine) ? FINE : NOT_CURTAILED;
                default:
                    return runs ? FINE : NOT_RUNNING;
            }
        }

        private int judgeSending(int turbine, int hours) {
            if (!isWithin(hours, 1, 12)) {
                return OUT_OF_RANGE;
            }
            if (!isInState(turbine, FAILED)) {
                return NOT_FAILED;
            }
            return countInState(IN_SERVICE) < CREWS ? FINE : NO_CREW;
        }

        private int judgeBid(char order, int hour, int price, int quantity) {
            if (order == WITHDRAW) {
                return isBidFor(hour) ? FINE : NO_BID;
            }
            if (!isWithin(price, 1, 50) || !isWithin(quantity, 1, 500)) {
                return OUT_OF_RANGE;
            }
            return isBidFor(hour) ? BID_EXISTS : FINE;
        }

        /** The detail of a rejection; first and second are the first two arguments of the rejected call. */
        int detailOf(int reason, int first, int second) {
            switch (reason) {
                case TURBINE_LIMIT:
                    return TURBINES;
                case CELL_TAKEN:
                    return turbineIn(first, second);
                case NOT_RUNNING:
                    return valueAt(serviceHours, first);
                case NO_CREW:
                    return firstInService();
                case BID_EXISTS:
                    return valueAt(prices, first);
                case NO_BID:
                    return countBids();
                default:
                    return outputIn(first, direction, speed);
            }
        }

        // -- changes

        int carryOut(char order, int first, int second, int third) {
            switch (order) {
                case ADD:
                    return add(first, second, third);
                case FAIL:
                    return breakDown(first);
                case SEND:
                    return startService(first, second);
                case RECALL:
                    return stopService(first);
                case CURTAIL:
                    return changeLimit(first, second);
                case RELEASE:
                    return endLimit(first);
                case WIND:
                    return turnWind((char) first, second);
                case GRID:
                    return changeGridLimit(first);
                case DISPATCH:
                    return limitToGrid();
                case RELEASE_ALL:
                    return endAllLimits();
                case BID:
                    return addBid(first, second, third);
                case WITHDRAW:
                    return removeBid(first);
                default:
                    return pass(first);
            }
        }

        int add(int row, int column, int power) {
            int turbine = count;
            setValue(rows, turbine, row);
            setValue(columns, turbine, column);
            setValue(rated, turbine, power);
            setValue(states, turbine, RUNNING);
            setValue(limits, turbine, NO_LIMIT);
            setValue(cells, placeOf(row, column), turbine + 1);
            count++;
            return turbine;
        }

        int breakDown(int turbine) {
            setValue(states, turbine, FAILED);
            setValue(limits, turbine, NO_LIMIT);
            return count - countInState(RUNNING);
        }

        int startService(int turbine, int hours) {
            setValue(states, turbine, IN_SERVICE);
            setValue(serviceHours, turbine, hours);
            return crewsLeft();
        }

        int stopService(int turbine) {
            int hours = valueAt(serviceHours, turbine);
            setValue(states, turbine, FAILED);
            setValue(serviceHours, turbine, 0);
            return hours;
        }

        int changeLimit(int turbine, int limit) {
            setValue(limits, turbine, limit);
            return outputIn(turbine, direction, speed);
        }

        int endLimit(int turbine) {
            return changeLimit(turbine, NO_LIMIT);
        }

        int turnWind(char from, int windSpeed) {
            direction = from;
            speed = windSpeed;
            return sumIn(from, windSpeed);
        }

        int changeGridLimit(int limit) {
            int previous = gridLimit;
            gridLimit = limit;
            return previous;
        }

        int limitToGrid() {
            int changed = 0;
            // A step ends the excess or leaves its turbine no output, so none is chosen twice.
            for (int step = 0; step < count; step++) {
                int excess = sumIn(direction, speed) - gridLimit;
                if (excess <= 0) {
                    return changed;
                }
                int turbine = turbineWithMostOutput();
                int rest = outputIn(turbine, direction, speed) - excess;
                setValue(limits, turbine, Math.max(rest, 0));
                changed++;
            }
            return changed;
        }

        private int turbineWithMostOutput() {
            int best = -1;
            int most = -1;
            for (int turbine = 0; turbine < count; turbine++) {
                int power = outputIn(turbine, direction, speed);
                if (power > most) {
                    most = power;
                    best = turbine;
                }
            }
            return best;
        }

        int endAllLimits() {
            int ended = 0;
            for (int turbine = 0; turbine < count; turbine++) {
                if (isCurtailed(turbine)) {
                    setValue(limits, turbine, NO_LIMIT);
                    ended++;
                }
            }
            return ended;
        }

        int addBid(int hour, int price, int quantity) {
            setValue(prices, hour, price);
            setValue(quantities, hour, quantity);
            return countBids();
        }

        int removeBid(int hour) {
            int quantity = valueAt(quantities, hour);
            setValue(prices, hour, 0);
            setValue(quantities, hour, 0);
            return quantity;
        }

        int pass(int hours) {
            long soldBefore = sold;
            for (int hour = 0; hour < hours; hour++) {
                account(sumIn(direction, speed));
                workOnServices();
                hoursPassed++;
            }
            return (int) (sold - soldBefore);
        }

        private void account(int energy) {
            int hour = hoursPassed % HOURS_OF_DAY;
            int quantity = valueAt(quantities, hour);
            int loss = energy / 20;
            int delivered = Math.min(energy - loss, quantity);
            int missing = quantity - delivered;
            made += energy;
            lost += loss;
            sold += delivered;
            spilled += energy - loss - delivered;
            coins += valueAt(prices, hour) * (delivered - missing);
        }

        private void workOnServices() {
            for (int turbine = 0; turbine < count; turbine++) {
                if (isInState(turbine, IN_SERVICE)) {
                    int left = valueAt(serviceHours, turbine) - 1;
                    setValue(serviceHours, turbine, left);
                    if (left == 0) {
                        setValue(states, turbine, RUNNING);
                    }
                }
            }
        }
    }

    /** The farms as they were before the latest changes, in a ring. */
    private static final class History {
        private final Farm[] farms = new Farm[UNDO_DEPTH];
        private int next;
        int size;

        History() {
            for (int index = 0; index < farms.length; index++) {
                farms[index] = new Farm();
            }
        }

        void keep(Farm farm) {
            Farm kept = farmAt(next);
            if (kept != null) {
                kept.copyFrom(farm);
                next = (next + 1) % UNDO_DEPTH;
                size = Math.min(size + 1, UNDO_DEPTH);
            }
        }

        void takeBack(Farm farm) {
            int latest = (next + UNDO_DEPTH - 1) % UNDO_DEPTH;
            Farm kept = farmAt(latest);
            if (kept != null && size > 0) {
                farm.copyFrom(kept);
                next = latest;
                size--;
            }
        }

        void forget() {
            size = 0;
        }

        private Farm farmAt(int index) {
            return index >= 0 && index < farms.length ? farms[index] : null;
        }
    }

    /** A text in a row that is made once. */
    private static final class Text {
        private final char[] signs = new char[TEXT_LENGTH];
        int length;

        void clear() {
            length = 0;
        }

        void add(char sign) {
            if (length >= 0 && length < signs.length) {
                signs[length] = sign;
                length++;
            }
        }

        /** No number that is written here has more than two digits. */
        void addNumber(int number) {
            if (number >= 10) {
                add((char) ('0' + number / 10 % 10));
            }
            add((char) ('0' + number % 10));
        }

        /** The character 0, which no text holds, where there is none. */
        char signAt(int index) {
            return index >= 0 && index < length && index < signs.length ? signs[index] : '\0';
        }
    }

    /** Reads the commands of the input; after a failed reading the position is the offset of the error. */
    private static final class CommandReader {
        final Text input = new Text();
        private final int[] arguments = new int[3];
        private int argumentCount;
        int position;
        char order;

        void restart() {
            position = 0;
        }

        int argument(int index) {
            return index < argumentCount ? valueAt(arguments, index) : 0;
        }

        /** The number of commands, or 0 if there is a syntax error. */
        int countCommands() {
            restart();
            for (int commands = 1; commands <= TEXT_LENGTH; commands++) {
                if (!readNext()) {
                    return 0;
                }
                if (position >= input.length) {
                    return commands;
                }
            }
            return 0;
        }

        boolean readNext() {
            if (position > 0 && !readSign(';')) {
                return false;
            }
            String parts = partsOf(input.signAt(position));
            if (parts == null) {
                return false;
            }
            order = input.signAt(position);
            position++;
            argumentCount = 0;
            for (int index = 0; index < parts.length(); index++) {
                if (!readPart(parts.charAt(index))) {
                    return false;
                }
            }
            return true;
        }

        /** What follows a letter: "1" is a digit, "n" a number, "w" a direction, another sign itself. */
        private static String partsOf(char letter) {
            switch (letter) {
                case ADD:
                    return "111";
                case FAIL:
                case RECALL:
                case RELEASE:
                case GRID:
                case WITHDRAW:
                case PASS:
                    return "n";
                case SEND:
                case CURTAIL:
                    return "n:n";
                case WIND:
                    return "wn";
                case BID:
                    return "n:n*n";
                case DISPATCH:
                case RELEASE_ALL:
                    return "";
                default:
                    return null;
            }
        }

        private boolean readPart(char part) {
            switch (part) {
                case '1':
                    return readDigits(1);
                case 'n':
                    return readDigits(3);
                case 'w':
                    return readDirection();
                default:
                    return readSign(part);
            }
        }

        private boolean readDigits(int most) {
            int value = 0;
            int digits = 0;
            while (digits < most && isWithin(input.signAt(position), '0', '9')) {
                value = value * 10 + input.signAt(position) - '0';
                position++;
                digits++;
            }
            keepArgument(value);
            return digits > 0;
        }

        private boolean readDirection() {
            char sign = input.signAt(position);
            if (!isDirection(sign)) {
                return false;
            }
            keepArgument(sign);
            position++;
            return true;
        }

        private boolean readSign(char due) {
            if (input.signAt(position) != due) {
                return false;
            }
            position++;
            return true;
        }

        private void keepArgument(int value) {
            setValue(arguments, argumentCount, value);
            argumentCount++;
        }
    }
}
