/** The terms from the grid to the hours. */
final class TermTests {
    private static final String GRID = "The farm is a grid of 5 rows and 6 columns, numbered from 0; the row 0 "
            + "is in the north and the column 0 in the west.";
    private static final String TWELVE = "There are at most 12 turbines, numbered from 0 in the order in which "
            + "they are added.";
    private static final String UPWIND = "The two cells upwind of a turbine are the next two cells of the grid "
            + "in the direction from which the wind comes.";
    private static final String STEP = "The turbine with the greatest output, and of several such turbines the "
            + "one with the lowest index, gets a limit: its output minus the excess of the total output over "
            + "the grid limit, but at least 0.";
    private static final String SERVICE = "Then the service of each turbine in service takes 1 hour less; a "
            + "turbine whose service takes no more hours is running again, without a limit, and its crew is "
            + "free.";
    private static final String DIRECTIONS = "NESW";

    // ---- grid

    @Sentence(GRID)
    static void termsGridHasThirtyCells() {
        for (int row = -1; row <= 5; row++) {
            for (int column = -1; column <= 6; column++) {
                int r = row;
                int c = column;
                boolean isInside = row >= 0 && row < 5 && column >= 0 && column < 6;
                Object due = isInside ? (Object) 0 : Check.thrown(Check.INDEX);
                WindFarmDispatcher farm = Farms.empty();
                Check.answers(due, () -> farm.addTurbine(r, c, 1));
                Check.answers(due, () -> farm.turbineAt(r, c));
            }
        }
    }

    @Sentence(GRID)
    static void termsRowZeroIsInTheNorth() {
        WindFarmDispatcher farm = Farms.empty();
        farm.addTurbine(0, 0, 1);
        farm.addTurbine(0, 1, 1);
        farm.addTurbine(1, 0, 1);
        losses(farm, 'N', 0, 0, 3);
        losses(farm, 'E', 3, 0, 0);
        losses(farm, 'S', 3, 0, 0);
        losses(farm, 'W', 0, 3, 0);
    }

    private static void losses(WindFarmDispatcher farm, char direction, int... due) {
        farm.setWind(direction, 12);
        for (int t = 0; t < due.length; t++) {
            int turbine = t;
            Check.answers(due[t], () -> farm.wakeLoss(turbine));
        }
    }

    @Sentence("A cell holds at most one turbine.")
    static void termsCellHoldsOneTurbine() {
        int[][] taken = {{0, 0}, {1, 0}, {2, 0}, {4, 5}};
        for (int t = 0; t < taken.length; t++) {
            int[] cell = taken[t];
            Twins.rejects(WindFarmDispatcher.CELL_TAKEN, t, Farms::busy, farm -> farm.addTurbine(cell[0], cell[1], 9));
        }
        Twins.changes(4, Farms::busy, farm -> farm.addTurbine(0, 1, 9));
    }

    @Sentence(TWELVE)
    static void termsThereAreTwelveTurbines() {
        WindFarmDispatcher farm = Farms.empty();
        for (int count = 0; count < 12; count++) {
            int cell = count;
            Check.answers(count, () -> farm.addTurbine(cell % 5, cell / 5, 1));
        }
        Check.refuses(Check.REJECTED, () -> farm.addTurbine(4, 5, 1));
        Check.answers(12, farm::turbineCount);
        farm.undo();
        Check.answers(11, () -> farm.addTurbine(4, 5, 1));
        Check.refuses(Check.REJECTED, () -> farm.addTurbine(4, 4, 1));
    }

    @Sentence(TWELVE)
    static void termsTurbinesAreNumberedInTheirOrder() {
        int[][] cells = {{4, 5}, {0, 0}, {2, 3}, {0, 5}, {4, 0}};
        WindFarmDispatcher farm = Farms.empty();
        for (int t = 0; t < cells.length; t++) {
            int turbine = t;
            Check.answers(t, () -> farm.addTurbine(cells[turbine][0], cells[turbine][1], 9 - turbine));
        }
        for (int t = 0; t < cells.length; t++) {
            int turbine = t;
            Check.answers(t, () -> farm.turbineAt(cells[turbine][0], cells[turbine][1]));
            Check.answers(9 - t, () -> farm.ratedPower(turbine));
        }
    }

    // ---- states

    @Sentence("A turbine is running, failed or in service.")
    static void termsTurbineIsInOneState() {
        WindFarmDispatcher farm = Farms.alone(5);
        Check.answers("running", () -> Farms.stateOf(farm, 0));
        farm.curtail(0, 0);
        Check.answers("running", () -> Farms.stateOf(farm, 0));
        farm.fail(0);
        Check.answers("failed", () -> Farms.stateOf(farm, 0));
        farm.sendCrew(0, 2);
        Check.answers("in service", () -> Farms.stateOf(farm, 0));
        farm.recallCrew(0);
        Check.answers("failed", () -> Farms.stateOf(farm, 0));
        farm.sendCrew(0, 2);
        farm.passHours(1);
        Check.answers("in service", () -> Farms.stateOf(farm, 0));
        farm.passHours(1);
        Check.answers("running", () -> Farms.stateOf(farm, 0));
    }

    @Sentence("A running turbine may be curtailed, which means that it has a limit.")
    static void termsRunningTurbineMayHaveALimit() {
        WindFarmDispatcher farm = Farms.alone(5);
        Check.refuses(Check.ELEMENT, () -> farm.limitOf(0));
        farm.curtail(0, 7);
        Check.answers(7, () -> farm.limitOf(0));
        Check.answers(true, () -> farm.isRunning(0));
        farm.fail(0);
        Check.refuses(Check.REJECTED, () -> farm.curtail(0, 7));
        Check.refuses(Check.ELEMENT, () -> farm.limitOf(0));
        farm.sendCrew(0, 1);
        Check.refuses(Check.REJECTED, () -> farm.curtail(0, 7));
        Check.refuses(Check.ELEMENT, () -> farm.limitOf(0));
    }

    @Sentence("There are 2 crews; each turbine in service has one of them.")
    static void termsThereAreTwoCrews() {
        WindFarmDispatcher farm = Farms.column();
        farm.fail(0);
        farm.fail(1);
        farm.fail(2);
        Check.answers(2, farm::freeCrews);
        farm.sendCrew(0, 5);
        Check.answers(1, farm::freeCrews);
        farm.sendCrew(1, 5);
        Check.answers(0, farm::freeCrews);
        Check.refuses(Check.REJECTED, () -> farm.sendCrew(2, 5));
        farm.recallCrew(0);
        Check.answers(0, () -> farm.sendCrew(2, 5));
        Check.refuses(Check.REJECTED, () -> farm.sendCrew(0, 5));
    }

    // ---- wind

    @Sentence("The wind comes from one of the four directions north, east, south and west, and has a speed.")
    static void termsWindHasFourDirections() {
        WindFarmDispatcher farm = Farms.empty();
        for (int sign = 0; sign < 400; sign++) {
            char direction = (char) sign;
            boolean isDirection = DIRECTIONS.indexOf(direction) >= 0;
            Object due = isDirection ? (Object) 0 : Check.thrown(Check.ARGUMENT);
            Check.answers(due, () -> farm.setWind(direction, 12));
        }
        Check.answers('W', farm::windDirection);
        Check.answers(12, farm::windSpeed);
    }

    @Sentence("At first it comes from the north with a speed of 0.")
    static void termsWindAtFirst() {
        Check.answers('N', Farms.empty()::windDirection);
        Check.answers(0, Farms.empty()::windSpeed);
        WindFarmDispatcher farm = Farms.empty();
        farm.addTurbine(0, 0, 9);
        farm.addTurbine(1, 0, 9);
        farm.addTurbine(0, 1, 9);
        Check.answers(0, farm::totalOutput);
        Check.answers(3, () -> farm.wakeLoss(1));
        Check.answers(0, () -> farm.wakeLoss(0));
        Check.answers(0, () -> farm.wakeLoss(2));
    }

    @Sentence("The power factor is 0 for speeds below 3, 2 for speeds from 3 to 4, 5 for speeds from 5 to 7, 8 for "
            + "speeds from 8 to 11, 10 for speeds from 12 to 22, and 0 for higher speeds.")
    static void termsPowerFactorOfEachSpeed() {
        int[] factors = {0, 0, 0, 2, 2, 5, 5, 5, 8, 8, 8, 8, 10, 10, 10, 10, 10, 10, 10, 10, 10, 10, 10,
            0, 0, 0, 0, 0, 0, 0, 0};
        WindFarmDispatcher farm = Farms.alone(1);
        for (int speed = 0; speed <= 30; speed++) {
            int present = speed;
            Check.answers(factors[speed], () -> farm.setWind('E', present));
            Check.answers(factors[speed], farm::powerFactor);
        }
    }

    // ---- wakes

    /** Each cell with each other one: also the cells of the next row or column behind an edge make no wakes. */
    @Sentence(UPWIND)
    static void termsUpwindCellsOfEachCell() {
        for (int cell = 0; cell < 30; cell++) {
            for (int other = 0; other < 30; other++) {
                if (other == cell) {
                    continue;
                }
                WindFarmDispatcher farm = Farms.empty();
                farm.addTurbine(cell / 6, cell % 6, 1);
                farm.addTurbine(other / 6, other % 6, 1);
                int south = other / 6 - cell / 6;
                int east = other % 6 - cell % 6;
                losses(farm, 'N', wakeFrom(-south, east));
                losses(farm, 'E', wakeFrom(east, south));
                losses(farm, 'S', wakeFrom(south, east));
                losses(farm, 'W', wakeFrom(-east, south));
            }
        }
    }

    private static int wakeFrom(int ahead, int aside) {
        if (aside != 0) {
            return 0;
        }
        return ahead == 1 ? 3 : ahead == 2 ? 1 : 0;
    }

    @Sentence(UPWIND)
    static void termsNoCellsAreUpwindBehindTheEdge() {
        WindFarmDispatcher farm = Farms.empty();
        int[][] cells = {{0, 0}, {0, 5}, {1, 0}, {1, 5}, {4, 0}, {4, 5}, {3, 0}, {2, 1}, {2, 4}, {1, 4}};
        for (int[] cell : cells) {
            farm.addTurbine(cell[0], cell[1], 1);
        }
        losses(farm, 'N', 0, 0, 3, 3, 3, 0, 1, 0, 3, 0);
        losses(farm, 'E', 0, 0, 0, 0, 0, 0, 0, 0, 0, 3);
        losses(farm, 'S', 3, 3, 1, 0, 0, 0, 3, 0, 0, 3);
        losses(farm, 'W', 0, 0, 0, 3, 0, 0, 0, 0, 0, 0);
    }

    @Sentence("The wake loss of a turbine is 3 if there is a running turbine in the nearer one of them, and 1 more if "
            + "there is a running turbine in the farther one.")
    static void termsWakeLossOfNearAndFar() {
        int[][] upwind = {{1, 2, 0, 2}, {2, 3, 2, 4}, {3, 2, 4, 2}, {2, 1, 2, 0}};
        for (int index = 0; index < 4; index++) {
            WindFarmDispatcher farm = Farms.alone(5);
            losses(farm, DIRECTIONS.charAt(index), 0);
            farm.addTurbine(upwind[index][2], upwind[index][3], 5);
            losses(farm, DIRECTIONS.charAt(index), 1);
            farm.addTurbine(upwind[index][0], upwind[index][1], 5);
            losses(farm, DIRECTIONS.charAt(index), 4);
            farm.fail(1);
            losses(farm, DIRECTIONS.charAt(index), 3);
            farm.fail(2);
            losses(farm, DIRECTIONS.charAt(index), 0);
        }
    }

    @Sentence("Curtailed turbines make wakes, too; failed turbines and turbines in service make none.")
    static void termsWakesOfEachState() {
        WindFarmDispatcher farm = Farms.column();
        farm.curtail(0, 0);
        losses(farm, 'N', 0, 3, 4, 0);
        farm.fail(0);
        losses(farm, 'N', 0, 0, 3, 0);
        farm.sendCrew(0, 2);
        losses(farm, 'N', 0, 0, 3, 0);
        farm.fail(1);
        farm.sendCrew(1, 1);
        losses(farm, 'N', 0, 0, 0, 0);
        farm.passHours(1);
        losses(farm, 'N', 0, 0, 3, 0);
        farm.passHours(1);
        losses(farm, 'N', 0, 3, 4, 0);
    }

    // ---- power

    /** With losses of 0, 3, 4 and (the nearer turbine is failed then) 1, at the least speed of each factor. */
    @Sentence("The available power of a running turbine, in tenths of a megawatt, is its rated power in megawatts "
            + "multiplied by the difference of the power factor and the wake loss; it is 0 if the wake loss is greater "
            + "than the power factor.")
    static void termsAvailablePowerOfEachLoss() {
        int[] speeds = {2, 3, 5, 8, 12, 23};
        int[][] powers = {{0, 0, 0, 0}, {18, 0, 0, 5}, {45, 10, 5, 20}, {72, 25, 20, 35}, {90, 35, 30, 45},
            {0, 0, 0, 0}};
        for (int index = 0; index < speeds.length; index++) {
            int[] due = powers[index];
            WindFarmDispatcher farm = Farms.column();
            farm.setWind('N', speeds[index]);
            Check.answers(due[0], () -> farm.availablePower(0));
            Check.answers(due[1], () -> farm.availablePower(1));
            Check.answers(due[2], () -> farm.availablePower(2));
            Check.answers(due[0] + due[1] + due[2] + due[0] / 3, farm::totalOutput);
            farm.fail(1);
            Check.answers(due[3], () -> farm.availablePower(2));
        }
    }

    @Sentence("The output of a running turbine is its available power, or its limit if it is curtailed and the limit "
            + "is smaller.")
    static void termsOutputIsPowerOrLimit() {
        WindFarmDispatcher farm = Farms.column();
        int[][] limitsAndOutputs = {{0, 0}, {1, 1}, {34, 34}, {35, 35}, {36, 35}, {90, 35}};
        Check.answers(35, () -> farm.outputOf(1));
        for (int[] row : limitsAndOutputs) {
            farm.curtail(1, row[0]);
            Check.answers(row[1], () -> farm.outputOf(1));
            Check.answers(35, () -> farm.availablePower(1));
        }
        farm.curtail(1, 20);
        farm.setWind('N', 5);
        Check.answers(10, () -> farm.outputOf(1));
        farm.setWind('N', 8);
        Check.answers(20, () -> farm.outputOf(1));
    }

    @Sentence("Other turbines have no available power and no output.")
    static void termsTurbinesAtRestHaveNoPower() {
        WindFarmDispatcher farm = Farms.alone(9);
        farm.curtail(0, 50);
        farm.fail(0);
        Check.answers(0, () -> farm.availablePower(0));
        Check.answers(0, () -> farm.outputOf(0));
        Check.answers(0, farm::totalOutput);
        farm.sendCrew(0, 2);
        Check.answers(0, () -> farm.availablePower(0));
        Check.answers(0, () -> farm.outputOf(0));
        Check.answers(0, farm::totalOutput);
        farm.recallCrew(0);
        Check.answers(0, () -> farm.availablePower(0));
        farm.sendCrew(0, 1);
        farm.passHours(1);
        Check.answers(90, () -> farm.outputOf(0));
    }

    // ---- dispatch

    @Sentence("The grid limit is 999 at first.")
    static void termsGridLimitAtFirst() {
        Check.answers(999, Farms.empty()::gridLimit);
        WindFarmDispatcher farm = Farms.full(9);
        farm.setWind('N', 12);
        Check.answers(1080, farm::totalOutput);
        farm.dispatch();
        Check.answers(999, farm::totalOutput);
    }

    @Sentence("Dispatch repeats the following step as long as the total output is greater than the grid limit.")
    static void termsDispatchEndsAtTheGridLimit() {
        int[][] limitsStepsAndTotals = {{999, 0, 185}, {186, 0, 185}, {185, 0, 185}, {184, 1, 184}, {95, 1, 95},
            {94, 2, 94}, {60, 2, 60}, {59, 3, 59}, {1, 4, 1}, {0, 4, 0}};
        for (int[] row : limitsStepsAndTotals) {
            WindFarmDispatcher farm = Farms.column();
            farm.setGridLimit(row[0]);
            Check.answers(row[1], farm::dispatch);
            Check.answers(row[2], farm::totalOutput);
            Check.answers(0, farm::dispatch);
        }
        Check.answers(0, Farms.empty()::dispatch);
    }

    @Sentence(STEP)
    static void termsDispatchLimitsTheGreatestOutput() {
        WindFarmDispatcher farm = Farms.column();
        farm.setGridLimit(184);
        farm.dispatch();
        limits(farm, 89, -1, -1, -1);
        farm.curtail(0, 34);
        farm.setGridLimit(128);
        farm.dispatch();
        limits(farm, 34, 34, -1, -1);
        // the total is 128 now, with 34, 34, 30 and 30
        farm.setGridLimit(127);
        farm.dispatch();
        limits(farm, 33, 34, -1, -1);
    }

    @Sentence(STEP)
    static void termsDispatchLimitsTheLowestIndexOfEqualOutputs() {
        WindFarmDispatcher farm = Farms.column();
        farm.fail(0);
        farm.setWind('W', 12);
        farm.curtail(1, 30);
        farm.curtail(2, 30);
        // three outputs of 30
        farm.setGridLimit(89);
        farm.dispatch();
        limits(farm, -1, 29, 30, -1);
        farm.setGridLimit(88);
        farm.dispatch();
        limits(farm, -1, 29, 29, -1);
        farm.setGridLimit(87);
        farm.dispatch();
        limits(farm, -1, 29, 29, 29);
    }

    @Sentence(STEP)
    static void termsDispatchLimitIsAtLeastZero() {
        // the excesses are 89, 90, 91 and, for the next turbine, 1
        int[][] gridAndLimits = {{96, 1, -1}, {95, 0, -1}, {94, 0, 34}};
        for (int[] row : gridAndLimits) {
            WindFarmDispatcher farm = Farms.column();
            farm.setGridLimit(row[0]);
            farm.dispatch();
            limits(farm, row[1], row[2], -1, -1);
        }
        WindFarmDispatcher farm = Farms.column();
        farm.setGridLimit(0);
        farm.dispatch();
        limits(farm, 0, 0, 0, 0);
    }

    /** A limit of -1 stands for none. */
    private static void limits(WindFarmDispatcher farm, int... due) {
        for (int t = 0; t < due.length; t++) {
            int turbine = t;
            Check.answers(due[t] < 0 ? Check.thrown(Check.ELEMENT) : (Object) due[t], () -> farm.limitOf(turbine));
        }
    }

    // ---- hours

    @Sentence("The hour of the day is the time modulo 24.")
    static void termsHourOfDayComesAgain() {
        WindFarmDispatcher farm = Farms.alone(1);
        farm.placeBid(0, 1, 10);
        farm.placeBid(23, 3, 10);
        int[][] hoursAndCoins = {{1, 10}, {22, 10}, {1, 40}, {1, 50}, {22, 50}, {1, 80}, {1, 90}, {23, 120}, {25, 170}};
        for (int[] row : hoursAndCoins) {
            farm.passHours(row[0]);
            Check.answers((long) row[1], farm::coins);
        }
        // 97 hours have passed
        Check.answers(22, farm::hoursToBid);
    }

    @Sentence("When an hour passes, the total output is the energy made in it, in units of energy.")
    static void termsEnergyIsTheTotalOutput() {
        WindFarmDispatcher farm = Farms.column();
        farm.passHours(1);
        Check.answers(185L, farm::energyMade);
        farm.curtail(0, 10);
        farm.fail(3);
        farm.passHours(1);
        Check.answers(185L + 75L, farm::energyMade);
        farm.setWind('N', 2);
        farm.passHours(1);
        Check.answers(185L + 75L, farm::energyMade);
        WindFarmDispatcher full = Farms.full(9);
        full.setWind('S', 22);
        full.passHours(48);
        Check.answers(48L * 1080L, full::energyMade);
    }

    @Sentence("A twentieth of it, rounded down, is lost.")
    static void termsATwentiethIsLost() {
        int[][] energiesAndLosses = {{0, 0}, {1, 0}, {19, 0}, {20, 1}, {21, 1}, {39, 1}, {40, 2}, {79, 3}, {80, 4}};
        for (int[] row : energiesAndLosses) {
            WindFarmDispatcher farm = Farms.alone(9);
            farm.curtail(0, row[0]);
            farm.passHours(1);
            Check.answers((long) row[1], farm::energyLost);
            farm.passHours(2);
            Check.answers(3L * row[1], farm::energyLost);
        }
    }

    /** Of 90 units of energy 4 are lost, so that 86 can be sold. */
    @Sentence("If there is a bid for the hour of the day, the rest is sold up to the quantity of the bid; each unit sold "
            + "earns the price of the bid, and each unit of the quantity that is not sold costs the price.")
    static void termsTheRestIsSold() {
        int[][] quantitiesSoldAndCoins = {{1, 1, 7}, {85, 85, 595}, {86, 86, 602}, {87, 86, 595}, {172, 86, 0},
            {173, 86, -7}, {500, 86, -2296}};
        for (int[] row : quantitiesSoldAndCoins) {
            WindFarmDispatcher farm = Farms.alone(9);
            farm.placeBid(0, 7, row[0]);
            Check.answers(row[1], () -> farm.passHours(1));
            Check.answers((long) row[1], farm::energySold);
            Check.answers((long) row[2], farm::coins);
            Check.answers(0, () -> farm.passHours(1));
            Check.answers((long) row[2], farm::coins);
        }
        WindFarmDispatcher calm = Farms.empty();
        calm.placeBid(0, 50, 500);
        Check.answers(0, () -> calm.passHours(1));
        Check.answers(-25000L, calm::coins);
    }

    @Sentence("What is neither lost nor sold is spilled.")
    static void termsTheRestOfTheRestIsSpilled() {
        int[][] quantitiesAndSpilled = {{1, 85}, {85, 1}, {86, 0}, {87, 0}};
        for (int[] row : quantitiesAndSpilled) {
            WindFarmDispatcher farm = Farms.alone(9);
            farm.placeBid(0, 7, row[0]);
            farm.passHours(1);
            Check.answers((long) row[1], farm::energySpilled);
            farm.passHours(1);
            Check.answers(row[1] + 86L, farm::energySpilled);
        }
    }

    @Sentence(SERVICE)
    static void termsServiceTakesOneHourLess() {
        WindFarmDispatcher farm = Farms.column();
        farm.curtail(0, 5);
        farm.fail(0);
        farm.fail(1);
        farm.fail(2);
        farm.sendCrew(0, 2);
        farm.sendCrew(2, 1);
        farm.passHours(1);
        Check.answers(1, () -> farm.serviceHoursLeft(0));
        Check.answers("in service", () -> Farms.stateOf(farm, 0));
        Check.answers("running", () -> Farms.stateOf(farm, 2));
        Check.answers(1, farm::freeCrews);
        farm.passHours(1);
        Check.answers("running", () -> Farms.stateOf(farm, 0));
        limits(farm, -1, -1, -1, -1);
        Check.answers(2, farm::freeCrews);
        farm.passHours(48);
        Check.answers("failed", () -> Farms.stateOf(farm, 1));
    }

    @Sentence(SERVICE)
    static void termsServiceEndsAfterTheHour() {
        WindFarmDispatcher farm = Farms.alone(2);
        farm.fail(0);
        farm.sendCrew(0, 12);
        farm.passHours(12);
        Check.answers(0L, farm::energyMade);
        Check.answers(20, farm::totalOutput);
        farm.passHours(1);
        Check.answers(20L, farm::energyMade);
        farm.fail(0);
        farm.sendCrew(0, 3);
        farm.passHours(48);
        Check.answers(20L + 45L * 20L, farm::energyMade);
    }

    @Sentence("Then the time increases by 1.")
    static void termsTimeIncreasesAfterTheHour() {
        WindFarmDispatcher farm = Farms.alone(1);
        farm.placeBid(0, 1, 10);
        Check.answers(10, () -> farm.passHours(1));
        Check.answers(1, farm::time);
        Check.answers(0, () -> farm.passHours(23));
        Check.answers(24, farm::time);
        Check.answers(10, () -> farm.passHours(1));
        Check.answers(25, farm::time);
    }
}
