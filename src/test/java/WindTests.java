/** Promises 19 to 29: wind and wakes. */
final class WindTests {
    private static final char[] NO_DIRECTIONS = {'n', 'e', 's', 'w', 'M', 'O', 'D', 'F', 'R', 'T', 'V', 'X', ' ', '\0',
        '1', '\uffff', (char) ('N' + 256), (char) ('W' + 128)};

    // ---- the wind

    @Sentence("Sets the wind.")
    static void promise19setWind() {
        WindFarmDispatcher farm = Farms.busy();
        farm.setWind('W', 7);
        Check.answers('W', farm::windDirection);
        Check.answers(7, farm::windSpeed);
        Check.answers(5, farm::powerFactor);
        Check.answers(0, () -> farm.wakeLoss(1));
        farm.setWind('S', 23);
        Check.answers('S', farm::windDirection);
        Check.answers(23, farm::windSpeed);
        Check.answers(3, () -> farm.wakeLoss(0));
    }

    @Sentence("- `direction`: the direction from which the wind comes: 'N', 'E', 'S' or 'W'")
    static void promise19windComesFromADirection() {
        for (char direction : "NESW".toCharArray()) {
            WindFarmDispatcher farm = Farms.empty();
            Check.answers(0, () -> farm.setWind(direction, 5));
            Check.answers(direction, farm::windDirection);
        }
        for (char direction : NO_DIRECTIONS) {
            Check.refuses(Check.ARGUMENT, () -> Farms.empty().setWind(direction, 5));
        }
    }

    @Sentence("- `speed`: the wind speed in metres per second, 0 to 30")
    static void promise19speedIsZeroToThirty() {
        WindFarmDispatcher farm = Farms.empty();
        for (int speed = -3; speed <= 33; speed++) {
            int given = speed;
            boolean isSpeed = speed >= 0 && speed <= 30;
            Check.answers(isSpeed ? (Object) 0 : Check.thrown(Check.ARGUMENT), () -> farm.setWind('N', given));
            Check.answers(speed < 0 ? 0 : Math.min(speed, 30), farm::windSpeed);
        }
    }

    @Sentence("Returns the total output after the call.")
    static void promise19setWindReturnsTheTotalOutput() {
        Twins.changes(185, Farms::column, farm -> farm.setWind('N', 22));
        Twins.changes(9 * 6 + 5 * 7 + 5 * 10 + 30, Farms::column, farm -> farm.setWind('S', 12));
        Twins.changes(2 * (9 + 5 + 5 + 3), Farms::column, farm -> farm.setWind('W', 3));
        Twins.changes(0, Farms::column, farm -> farm.setWind('E', 30));
        Twins.changes(0, Farms::column, farm -> farm.setWind('E', 0));
    }

    @Sentence("Throws `IllegalArgumentException` if direction is not 'N', 'E', 'S' or 'W', or speed is out of range")
    static void promise19setWindNeedsAWind() {
        Twins.needRange(0, 30, Farms::busy, (farm, speed) -> farm.setWind('W', speed));
        for (char direction : NO_DIRECTIONS) {
            Twins.refuses(Check.ARGUMENT, Farms::busy, farm -> farm.setWind(direction, 5));
        }
        Twins.refuses(Check.ARGUMENT, Farms::busy, farm -> farm.setWind('X', 31));
    }

    @Sentence({"Returns the direction from which the wind comes.", "Returns 'N', 'E', 'S' or 'W'."})
    static void promise20windDirection() {
        Twins.reads('N', Farms::busy, WindFarmDispatcher::windDirection);
        for (char direction : "NESW".toCharArray()) {
            WindFarmDispatcher farm = Farms.empty();
            farm.setWind(direction, 0);
            Check.answers(direction, farm::windDirection);
        }
    }

    @Sentence({"Returns the wind speed.", "Returns the speed in metres per second."})
    static void promise21windSpeed() {
        Twins.reads(12, Farms::busy, WindFarmDispatcher::windSpeed);
        WindFarmDispatcher farm = Farms.empty();
        for (int speed = 0; speed <= 30; speed++) {
            farm.setWind('E', speed);
            int due = speed;
            Check.answers(due, farm::windSpeed);
        }
    }

    @Sentence("Returns the power factor of the present wind speed.")
    static void promise22powerFactor() {
        Twins.reads(10, Farms::busy, WindFarmDispatcher::powerFactor);
        Twins.reads(0, Farms::empty, WindFarmDispatcher::powerFactor);
        int[][] speedsAndFactors = {{2, 0}, {3, 2}, {4, 2}, {5, 5}, {7, 5}, {8, 8}, {11, 8}, {12, 10}, {22, 10},
            {23, 0}};
        WindFarmDispatcher farm = Farms.empty();
        for (int[] row : speedsAndFactors) {
            farm.setWind('S', row[0]);
            Check.answers(row[1], farm::powerFactor);
        }
        farm.undo();
        Check.answers(10, farm::powerFactor);
    }

    @Sentence("Returns the factor, 0 to 10.")
    static void promise22powerFactorIsZeroToTen() {
        WindFarmDispatcher farm = Farms.empty();
        farm.setWind('N', 0);
        Check.answers(0, farm::powerFactor);
        farm.setWind('N', 12);
        Check.answers(10, farm::powerFactor);
        farm.setWind('N', 22);
        Check.answers(10, farm::powerFactor);
        farm.setWind('N', 30);
        Check.answers(0, farm::powerFactor);
    }

    // ---- the power of a turbine

    @Sentence("Returns the wake loss of a turbine, found by looking at the two cells upwind of it.")
    static void promise23wakeLoss() {
        Twins.reads(0, Farms::busy, farm -> farm.wakeLoss(0));
        Twins.reads(3, Farms::busy, farm -> farm.wakeLoss(1));
        Twins.reads(4, Farms::busy, farm -> farm.wakeLoss(2));
        Twins.reads(0, Farms::busy, farm -> farm.wakeLoss(3));
        // the third cell upwind does not count
        WindFarmDispatcher farm = Farms.empty();
        farm.addTurbine(4, 3, 1);
        farm.addTurbine(1, 3, 1);
        farm.addTurbine(0, 3, 1);
        Check.answers(0, () -> farm.wakeLoss(0));
    }

    /** In a calm, too, and of a turbine that does not run. */
    @Sentence("Returns the loss, 0 to 4.")
    static void promise23wakeLossIsZeroToFour() {
        WindFarmDispatcher farm = Farms.alone(5);
        int[][] others = {{1, 2}, {0, 2}, {2, 3}, {2, 4}, {3, 2}, {4, 2}, {2, 1}, {2, 0}};
        for (int[] other : others) {
            farm.addTurbine(other[0], other[1], 5);
        }
        for (int index = 0; index < 4; index++) {
            int near = 1 + 2 * index;
            farm.setWind("NESW".charAt(index), index);
            Check.answers(4, () -> farm.wakeLoss(0));
            farm.fail(near + 1);
            Check.answers(3, () -> farm.wakeLoss(0));
            farm.undo();
            farm.fail(near);
            Check.answers(1, () -> farm.wakeLoss(0));
            farm.fail(near + 1);
            Check.answers(0, () -> farm.wakeLoss(0));
        }
    }

    @Sentence("Throws `IndexOutOfBoundsException` if there is no such turbine")
    static void promise23wakeLossNeedsATurbine() {
        Twins.needTurbine(WindFarmDispatcher::wakeLoss);
    }

    @Sentence("Returns the power that a turbine would have without a limit.")
    static void promise24availablePower() {
        Twins.reads(90, Farms::busy, farm -> farm.availablePower(0));
        Twins.reads(35, Farms::busy, farm -> farm.availablePower(1));
        WindFarmDispatcher farm = Farms.column();
        farm.curtail(0, 0);
        Check.answers(90, () -> farm.availablePower(0));
        farm.curtail(0, 90);
        Check.answers(90, () -> farm.availablePower(0));
    }

    @Sentence("Returns the power in tenths of a megawatt, 0 if it is not running.")
    static void promise24availablePowerOfATurbineAtRest() {
        Twins.reads(0, Farms::busy, farm -> farm.availablePower(2));
        Twins.reads(0, Farms::busy, farm -> farm.availablePower(3));
        WindFarmDispatcher farm = Farms.busy();
        farm.passHours(4);
        Check.answers(0, () -> farm.availablePower(3));
        farm.passHours(1);
        Check.answers(30, () -> farm.availablePower(3));
    }

    @Sentence("Throws `IndexOutOfBoundsException` if there is no such turbine")
    static void promise24availablePowerNeedsATurbine() {
        Twins.needTurbine(WindFarmDispatcher::availablePower);
    }

    @Sentence({"Returns the output of a turbine.", "Returns the output in tenths of a megawatt."})
    static void promise25outputOf() {
        Twins.reads(90, Farms::busy, farm -> farm.outputOf(0));
        Twins.reads(20, Farms::busy, farm -> farm.outputOf(1));
        Twins.reads(0, Farms::busy, farm -> farm.outputOf(2));
        Twins.reads(0, Farms::busy, farm -> farm.outputOf(3));
        Twins.reads(0, Farms::full, farm -> farm.outputOf(11));
        WindFarmDispatcher farm = Farms.column();
        farm.curtail(0, 80);
        Check.answers(80, () -> farm.outputOf(0));
        farm.setWind('N', 8);
        Check.answers(72, () -> farm.outputOf(0));
    }

    @Sentence("Throws `IndexOutOfBoundsException` if there is no such turbine")
    static void promise25outputOfNeedsATurbine() {
        Twins.needTurbine(WindFarmDispatcher::outputOf);
    }

    // ---- the total output

    @Sentence({"Returns the sum of the outputs of all turbines, turbine by turbine.",
        "Returns the total output in tenths of a megawatt."})
    static void promise26totalOutput() {
        Twins.reads(110, Farms::busy, WindFarmDispatcher::totalOutput);
        Twins.reads(185, Farms::column, WindFarmDispatcher::totalOutput);
        Twins.reads(0, Farms::empty, WindFarmDispatcher::totalOutput);
        WindFarmDispatcher full = Farms.full(9);
        Check.answers(0, full::totalOutput);
        full.setWind('N', 12);
        Check.answers(1080, full::totalOutput);
        full.fail(0);
        full.fail(11);
        Check.answers(900, full::totalOutput);
    }

    @Sentence("Returns the total output in a second way: line by line along the wind, from the upwind edge on, with the two "
            + "cells before each cell kept in mind.")
    static void promise27totalOutputByLines() {
        // 0 and 4 are the edges of the columns, 0 and 5 those of the rows
        int[][] cells = {{0, 0}, {1, 0}, {2, 0}, {4, 0}, {0, 5}, {0, 4}, {0, 2}, {4, 5}, {3, 5}, {2, 3}, {4, 3}, {2, 2}};
        WindFarmDispatcher farm = Farms.empty();
        for (int turbine = 0; turbine < cells.length; turbine++) {
            farm.addTurbine(cells[turbine][0], cells[turbine][1], 1 + turbine % 9);
        }
        farm.fail(1);
        farm.fail(8);
        farm.sendCrew(8, 3);
        farm.curtail(5, 0);
        farm.curtail(7, 33);
        for (char direction : "NESW".toCharArray()) {
            for (int speed : new int[] {0, 2, 3, 5, 8, 12, 22, 23}) {
                farm.setWind(direction, speed);
                Check.answers(farm.totalOutput(), farm::totalOutputByLines);
            }
        }
    }

    @Sentence("Returns the same total output.")
    static void promise27totalOutputByLinesIsTheSame() {
        Twins.reads(110, Farms::busy, WindFarmDispatcher::totalOutputByLines);
        Twins.reads(185, Farms::column, WindFarmDispatcher::totalOutputByLines);
        Twins.reads(0, Farms::empty, WindFarmDispatcher::totalOutputByLines);
        WindFarmDispatcher farm = Farms.column();
        farm.setWind('S', 12);
        Check.answers(169, farm::totalOutputByLines);
        farm.setWind('E', 12);
        Check.answers(220, farm::totalOutputByLines);
        farm.setWind('W', 23);
        Check.answers(0, farm::totalOutputByLines);
        WindFarmDispatcher full = Farms.full(9);
        full.setWind('N', 12);
        Check.answers(1080, full::totalOutputByLines);
        full.setWind('W', 12);
        Check.answers(2 * (90 + 63 + 4 * 54), full::totalOutputByLines);
        Check.answers(2 * (90 + 63 + 4 * 54), full::totalOutput);
    }

    // ---- other winds

    @Sentence({"Returns what the total output would be with another wind.",
        "Returns the total output in tenths of a megawatt."})
    static void promise28outputWith() {
        Twins.reads(110, Farms::busy, farm -> farm.outputWith('N', 12));
        Twins.reads(63 + 20, Farms::busy, farm -> farm.outputWith('S', 22));
        Twins.reads(45 + 20, Farms::busy, farm -> farm.outputWith('S', 8));
        Twins.reads(18 + 10, Farms::busy, farm -> farm.outputWith('W', 3));
        Twins.reads(220, Farms::column, farm -> farm.outputWith('E', 12));
        Twins.reads(0, Farms::column, farm -> farm.outputWith('E', 23));
        Twins.reads(0, Farms::empty, farm -> farm.outputWith('E', 12));
    }

    @Sentence("- `direction`: the direction from which the wind comes: 'N', 'E', 'S' or 'W'")
    static void promise28outputWithEachDirection() {
        Twins.reads(185, Farms::column, farm -> farm.outputWith('N', 12));
        Twins.reads(220, Farms::column, farm -> farm.outputWith('E', 12));
        Twins.reads(169, Farms::column, farm -> farm.outputWith('S', 12));
        Twins.reads(220, Farms::column, farm -> farm.outputWith('W', 12));
        for (int sign = 0; sign < 300; sign++) {
            char direction = (char) sign;
            boolean isDirection = "NESW".indexOf(direction) >= 0;
            Check.answers(isDirection ? (Object) 0 : Check.thrown(Check.ARGUMENT),
                    () -> Farms.empty().outputWith(direction, 5));
        }
    }

    @Sentence("- `speed`: the wind speed in metres per second, 0 to 30")
    static void promise28outputWithEachSpeed() {
        int[] factors = {0, 0, 0, 2, 2, 5, 5, 5, 8, 8, 8, 8, 10, 10, 10, 10, 10, 10, 10, 10, 10, 10, 10,
            0, 0, 0, 0, 0, 0, 0, 0};
        WindFarmDispatcher farm = Farms.alone(7);
        for (int speed = 0; speed <= 30; speed++) {
            int given = speed;
            Check.answers(7 * factors[speed], () -> farm.outputWith('S', given));
        }
    }

    @Sentence("Throws `IllegalArgumentException` if direction is not 'N', 'E', 'S' or 'W', or speed is out of range")
    static void promise28outputWithNeedsAWind() {
        Twins.needRange(0, 30, Farms::busy, (farm, speed) -> farm.outputWith('W', speed));
        for (char direction : NO_DIRECTIONS) {
            Twins.refuses(Check.ARGUMENT, Farms::busy, farm -> farm.outputWith(direction, 5));
        }
        Twins.refuses(Check.ARGUMENT, Farms::busy, farm -> farm.outputWith('X', -1));
    }

    @Sentence({"Returns the wind direction with which the total output would be greatest at the present wind speed.",
        "Returns the direction."})
    static void promise29bestDirection() {
        Twins.reads('N', Farms::busy, WindFarmDispatcher::bestDirection);
        Twins.reads('E', Farms::column, WindFarmDispatcher::bestDirection);
        // the wakes in a wind from N take 31, from E 27, from S 63 and from W 3
        Check.answers('W', () -> best(new int[][] {{0, 0, 9}, {0, 1, 1}, {1, 0, 9}, {2, 0, 1}}, 12));
        // a weak turbine in the wake of the strong one takes 3, the strong one in the wake of a weak one 27
        Check.answers('N', () -> best(new int[][] {{4, 1, 1}, {3, 1, 9}, {3, 0, 1}, {3, 2, 1}}, 12));
        Check.answers('E', () -> best(new int[][] {{1, 0, 1}, {1, 1, 9}, {0, 1, 1}, {2, 1, 1}}, 12));
        Check.answers('S', () -> best(new int[][] {{0, 1, 1}, {1, 1, 9}, {1, 0, 1}, {1, 2, 1}}, 12));
    }

    @Sentence("Returns the wind direction with which the total output would be greatest at the present wind speed.")
    static void promise29bestDirectionDependsOnTheSpeed() {
        int[][] turbines = {{0, 0, 9}, {2, 0, 5}, {4, 4, 2}, {4, 5, 9}};
        // N takes 5 times 1 and E 2 times 3
        Check.answers('N', () -> best(turbines, 12));
        // of a power factor of 2, E can't take more than 2 times 2
        Check.answers('E', () -> best(turbines, 3));
        Check.answers('N', () -> best(turbines, 2));
    }

    @Sentence("Of several such directions, the first one in the order N, E, S, W is returned.")
    static void promise29bestDirectionIsTheFirst() {
        Check.answers('N', Farms.empty()::bestDirection);
        Check.answers('N', () -> best(new int[][] {{2, 2, 5}}, 12));
        // in a calm and in a storm all are the same, whatever the present direction is
        Check.answers('N', () -> best(new int[][] {{0, 0, 9}, {1, 0, 9}}, 0));
        Check.answers('N', () -> best(new int[][] {{0, 0, 9}, {1, 0, 9}}, 30));
        // E and W are the same, N and S are worse
        Check.answers('E', () -> best(new int[][] {{0, 0, 9}, {1, 0, 9}}, 12));
        // N and S are the same, E and W are worse
        Check.answers('N', () -> best(new int[][] {{0, 0, 9}, {0, 1, 9}}, 12));
        // N and E are worse, S and W are the same
        Check.answers('S', () -> best(new int[][] {{1, 1, 9}, {0, 1, 1}, {1, 2, 1}}, 12));
    }

    /** The best direction for turbines with these rows, columns and rated powers. */
    private static char best(int[][] turbines, int speed) {
        WindFarmDispatcher farm = Farms.empty();
        for (int[] turbine : turbines) {
            farm.addTurbine(turbine[0], turbine[1], turbine[2]);
        }
        farm.setWind('S', speed);
        return farm.bestDirection();
    }
}
