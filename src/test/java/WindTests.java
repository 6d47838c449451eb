/** Promises 19 to 29: wind and wakes. */
final class WindTests {
    private static final Class<? extends RuntimeException> OUTSIDE = IndexOutOfBoundsException.class;
    private static final Class<? extends RuntimeException> WRONG = IllegalArgumentException.class;
    private static final int[] NO_TURBINES = {-1, 4, 12, Integer.MIN_VALUE, Integer.MAX_VALUE};
    private static final char[] NO_DIRECTIONS = {'n', 'e', 's', 'w', 'X', ' ', '\0', '\uffff', (char) ('N' + 256)};

    static void promise19setWind() {
        WindFarmDispatcher farm = Farms.column();
        Farms.isChange(farm, 185, () -> farm.setWind('N', 22));
        Farms.isChange(farm, 185, () -> farm.setWind('N', 22));
        Farms.isChange(farm, 9 * 6 + 5 * 7 + 5 * 10 + 30, () -> farm.setWind('S', 12));
        Check.answers(2 * (9 + 5 + 5 + 3), () -> farm.setWind('W', 3));
        Check.answers(0, () -> farm.setWind('E', 30));
        Check.answers('E', farm::windDirection);
        Check.answers(30, farm::windSpeed);
        Check.answers(0, () -> farm.setWind('S', 0));
        for (char direction : NO_DIRECTIONS) {
            Farms.refusesAndKeeps(farm, WRONG, () -> farm.setWind(direction, 5));
        }
        for (int speed : new int[] {-1, 31, Integer.MIN_VALUE, Integer.MAX_VALUE}) {
            Farms.refusesAndKeeps(farm, WRONG, () -> farm.setWind('N', speed));
        }
    }

    static void promise20windDirection() {
        WindFarmDispatcher farm = Farms.empty();
        Check.answers('N', farm::windDirection);
        for (char direction : "ESWN".toCharArray()) {
            farm.setWind(direction, 1);
            Check.answers(direction, farm::windDirection);
        }
    }

    static void promise21windSpeed() {
        WindFarmDispatcher farm = Farms.empty();
        Check.answers(0, farm::windSpeed);
        for (int speed : new int[] {30, 7, 0}) {
            farm.setWind('E', speed);
            Check.answers(speed, farm::windSpeed);
        }
    }

    static void promise22powerFactor() {
        int[] factors = {0, 0, 0, 2, 2, 5, 5, 5, 8, 8, 8, 8, 10, 10, 10, 10, 10, 10, 10, 10, 10, 10, 10,
            0, 0, 0, 0, 0, 0, 0, 0};
        WindFarmDispatcher farm = Farms.empty();
        Check.answers(0, farm::powerFactor);
        for (int speed = 0; speed <= 30; speed++) {
            farm.setWind('W', speed);
            Check.answers(factors[speed], farm::powerFactor);
        }
    }

    static void promise23wakeLoss() {
        WindFarmDispatcher farm = Farms.empty();
        farm.addTurbine(2, 2, 5);
        for (int[] other : new int[][] {{1, 2}, {0, 2}, {2, 3}, {2, 4}, {3, 2}, {4, 2}, {2, 1}, {2, 0}}) {
            farm.addTurbine(other[0], other[1], 5);
        }
        String directions = "NESW";
        for (int index = 0; index < 4; index++) {
            farm.setWind(directions.charAt(index), index);
            int near = 1 + 2 * index;
            int far = near + 1;
            Check.answers(4, () -> farm.wakeLoss(0));
            farm.fail(far);
            Check.answers(3, () -> farm.wakeLoss(0));
            farm.fail(near);
            Check.answers(0, () -> farm.wakeLoss(0));
            farm.sendCrew(far, 1);
            Check.answers(0, () -> farm.wakeLoss(0));
            farm.passHours(1);
            Check.answers(1, () -> farm.wakeLoss(0));
            farm.curtail(far, 0);
            Check.answers(1, () -> farm.wakeLoss(0));
        }
        farm.fail(0);
        Check.answers(1, () -> farm.wakeLoss(0));
        WindFarmDispatcher column = Farms.column();
        for (int turbine : NO_TURBINES) {
            Farms.refusesAndKeeps(column, OUTSIDE, () -> column.wakeLoss(turbine));
        }
    }

    /** The edge of the grid is no way round to the next row. */
    static void promise23wakeLossAtTheEdges() {
        WindFarmDispatcher farm = Farms.empty();
        int[][] cells = {{0, 0}, {0, 5}, {1, 0}, {1, 5}, {4, 0}, {4, 5}, {2, 1}, {2, 4}};
        for (int[] cell : cells) {
            farm.addTurbine(cell[0], cell[1], 1);
        }
        int[][] losses = {
            {0, 0, 3, 3, 0, 0, 0, 0},
            {0, 0, 0, 0, 0, 0, 0, 0},
            {3, 3, 0, 0, 0, 0, 0, 0},
            {0, 0, 0, 0, 0, 0, 0, 0},
        };
        for (int index = 0; index < 4; index++) {
            farm.setWind("NESW".charAt(index), 12);
            for (int t = 0; t < cells.length; t++) {
                int turbine = t;
                Check.answers(losses[index][t], () -> farm.wakeLoss(turbine));
            }
        }
    }

    static void promise24availablePower() {
        WindFarmDispatcher farm = Farms.column();
        int[] due = {90, 35, 30, 30};
        for (int t = 0; t < 4; t++) {
            int turbine = t;
            Check.answers(due[t], () -> farm.availablePower(turbine));
        }
        farm.curtail(0, 4);
        Check.answers(90, () -> farm.availablePower(0));
        farm.setWind('N', 3);
        Check.answers(18, () -> farm.availablePower(0));
        Check.answers(0, () -> farm.availablePower(1));
        Check.answers(0, () -> farm.availablePower(2));
        farm.setWind('N', 5);
        Check.answers(5, () -> farm.availablePower(2));
        farm.fail(2);
        Check.answers(0, () -> farm.availablePower(2));
        farm.sendCrew(2, 1);
        Check.answers(0, () -> farm.availablePower(2));
        for (int turbine : NO_TURBINES) {
            Farms.refusesAndKeeps(farm, OUTSIDE, () -> farm.availablePower(turbine));
        }
    }

    static void promise25outputOf() {
        WindFarmDispatcher farm = Farms.column();
        Check.answers(90, () -> farm.outputOf(0));
        farm.curtail(0, 89);
        Check.answers(89, () -> farm.outputOf(0));
        farm.setWind('N', 8);
        Check.answers(72, () -> farm.outputOf(0));
        farm.curtail(0, 0);
        Check.answers(0, () -> farm.outputOf(0));
        farm.fail(1);
        Check.answers(0, () -> farm.outputOf(1));
        farm.sendCrew(1, 2);
        Check.answers(0, () -> farm.outputOf(1));
        for (int turbine : NO_TURBINES) {
            Farms.refusesAndKeeps(farm, OUTSIDE, () -> farm.outputOf(turbine));
        }
    }

    static void promise26totalOutput() {
        WindFarmDispatcher farm = Farms.column();
        Check.answers(185, farm::totalOutput);
        farm.curtail(0, 10);
        Check.answers(105, farm::totalOutput);
        farm.fail(0);
        Check.answers(50 + 35 + 30, farm::totalOutput);
        Check.answers(0, Farms.empty()::totalOutput);
        WindFarmDispatcher full = Farms.full(9);
        full.setWind('N', 12);
        Check.answers(1080, full::totalOutput);
        Farms.isNoChange(full, full::totalOutput);
    }

    static void promise27totalOutputByLines() {
        WindFarmDispatcher farm = Farms.full(7);
        farm.fail(3);
        farm.fail(8);
        farm.sendCrew(8, 3);
        farm.curtail(10, 11);
        for (char direction : "NESW".toCharArray()) {
            for (int speed : new int[] {0, 3, 5, 8, 12, 23}) {
                farm.setWind(direction, speed);
                Check.answers(farm.totalOutput(), farm::totalOutputByLines);
            }
        }
        WindFarmDispatcher column = Farms.column();
        Check.answers(185, column::totalOutputByLines);
        column.setWind('S', 12);
        Check.answers(169, column::totalOutputByLines);
        column.setWind('E', 12);
        Check.answers(220, column::totalOutputByLines);
        Check.answers(0, Farms.empty()::totalOutputByLines);
    }

    static void promise28outputWith() {
        WindFarmDispatcher farm = Farms.column();
        String before = Farms.allOf(farm);
        Check.answers(169, () -> farm.outputWith('S', 12));
        Check.answers(220, () -> farm.outputWith('W', 22));
        Check.answers(0, () -> farm.outputWith('W', 23));
        Check.answers(0, () -> farm.outputWith('N', 0));
        Check.answers(0, () -> farm.outputWith('E', 30));
        Check.answers(before, () -> Farms.allOf(farm));
        farm.curtail(0, 20);
        Check.answers(150, () -> farm.outputWith('E', 12));
        Farms.isNoChange(farm, () -> farm.outputWith('E', 12));
        for (char direction : NO_DIRECTIONS) {
            Farms.refusesAndKeeps(farm, WRONG, () -> farm.outputWith(direction, 5));
        }
        for (int speed : new int[] {-1, 31, Integer.MIN_VALUE, Integer.MAX_VALUE}) {
            Farms.refusesAndKeeps(farm, WRONG, () -> farm.outputWith('N', speed));
        }
    }

    static void promise29bestDirection() {
        Check.answers('N', Farms.empty()::bestDirection);
        WindFarmDispatcher farm = Farms.column();
        Check.answers('E', farm::bestDirection);
        Check.answers('N', farm::windDirection);
        farm.setWind('W', 0);
        Check.answers('N', farm::bestDirection);
        Farms.isNoChange(farm, farm::bestDirection);
        WindFarmDispatcher row = Farms.empty();
        row.addTurbine(0, 0, 9);
        row.addTurbine(0, 1, 1);
        row.addTurbine(1, 0, 9);
        row.addTurbine(2, 0, 1);
        row.setWind('N', 12);
        // N 90+10+63+6, E 63+10+90+10, S 54+10+63+10, W 90+7+90+10
        Check.answers('W', row::bestDirection);
        row.curtail(0, 60);
        row.curtail(2, 0);
        // N 60+10+0+6, E 60+10+0+10, S 54+10+0+10, W 60+7+0+10
        Check.answers('E', row::bestDirection);
        row.fail(1);
        // N 60+0+6, E 60+0+10, S 54+0+10, W 60+0+10
        Check.answers('E', row::bestDirection);
    }

    static void promise29bestDirectionIsSouth() {
        WindFarmDispatcher farm = Farms.empty();
        farm.addTurbine(0, 1, 1);
        farm.addTurbine(1, 1, 9);
        farm.addTurbine(1, 0, 1);
        farm.addTurbine(1, 2, 1);
        farm.setWind('N', 12);
        // N, E and W take 3 from the strong turbine, S from the weak one in the north
        Check.answers('S', farm::bestDirection);
    }
}
