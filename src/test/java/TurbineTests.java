import java.util.NoSuchElementException;

/** Promises 1 to 18: turbines. */
final class TurbineTests {
    private static final Class<? extends RuntimeException> OUTSIDE = IndexOutOfBoundsException.class;
    private static final Class<? extends RuntimeException> WRONG = IllegalArgumentException.class;
    private static final Class<? extends RuntimeException> NONE = NoSuchElementException.class;
    private static final int[] NO_TURBINES = {-1, 4, 5, 11, 12, Integer.MIN_VALUE, Integer.MAX_VALUE};

    static void promise01newObject() {
        WindFarmDispatcher farm = new WindFarmDispatcher();
        Check.answers(0, farm::turbineCount);
        Check.answers(2, farm::freeCrews);
        Check.answers('N', farm::windDirection);
        Check.answers(0, farm::windSpeed);
        Check.answers(999, farm::gridLimit);
        Check.answers(0, farm::time);
        Check.answers(0L, farm::energyMade);
        Check.answers(0L, farm::energyLost);
        Check.answers(0L, farm::energySold);
        Check.answers(0L, farm::energySpilled);
        Check.answers(0L, farm::coins);
        Check.answers(true, farm::isConsistent);
        for (int hour = 0; hour < 24; hour++) {
            int asked = hour;
            Check.answers(false, () -> farm.hasBid(asked));
        }
        Check.refuses(OUTSIDE, () -> farm.outputAt(0));
        Check.refuses(NONE, farm::rejectionReason);
        Check.refuses(NONE, farm::syntaxErrorOffset);
        Check.refuses(IllegalStateException.class, farm::undo);
        Check.refuses(IllegalStateException.class, farm::restoreSnapshot);
        farm.addTurbine(0, 0, 1);
        Check.answers(0, new WindFarmDispatcher()::turbineCount);
    }

    static void promise02addTurbine() {
        WindFarmDispatcher farm = Farms.empty();
        Check.answers(0, () -> farm.addTurbine(4, 5, 9));
        Check.answers(1, () -> farm.addTurbine(0, 0, 1));
        Check.answers(true, () -> farm.isRunning(0) && farm.isRunning(1));
        Check.refuses(NONE, () -> farm.limitOf(1));
        int[][] outside = {{-1, 0}, {5, 0}, {0, -1}, {0, 6}, {5, 5}, {4, 6},
            {Integer.MIN_VALUE, 0}, {0, Integer.MIN_VALUE}, {Integer.MAX_VALUE, Integer.MAX_VALUE}};
        for (int[] cell : outside) {
            Farms.refusesAndKeeps(farm, OUTSIDE, () -> farm.addTurbine(cell[0], cell[1], 1));
            Farms.refusesAndKeeps(farm, OUTSIDE, () -> farm.addTurbine(cell[0], cell[1], 0));
        }
        for (int rated : new int[] {0, 10, -1, Integer.MIN_VALUE, Integer.MAX_VALUE}) {
            Farms.refusesAndKeeps(farm, WRONG, () -> farm.addTurbine(1, 1, rated));
            Farms.refusesAndKeeps(farm, WRONG, () -> farm.addTurbine(0, 0, rated));
        }
        Farms.rejectsAndKeeps(farm, WindFarmDispatcher.CELL_TAKEN, 1, () -> farm.addTurbine(0, 0, 1));
        Farms.rejectsAndKeeps(farm, WindFarmDispatcher.CELL_TAKEN, 0, () -> farm.addTurbine(4, 5, 9));
        Farms.isChange(farm, 2, () -> farm.addTurbine(2, 2, 5));
    }

    static void promise02addTurbineToAFullFarm() {
        WindFarmDispatcher farm = Farms.full(3);
        Check.answers(12, farm::turbineCount);
        Farms.rejectsAndKeeps(farm, WindFarmDispatcher.TURBINE_LIMIT, 12, () -> farm.addTurbine(1, 1, 1));
        Farms.rejectsAndKeeps(farm, WindFarmDispatcher.TURBINE_LIMIT, 12, () -> farm.addTurbine(0, 1, 1));
        Farms.refusesAndKeeps(farm, WRONG, () -> farm.addTurbine(1, 1, 10));
        Farms.refusesAndKeeps(farm, OUTSIDE, () -> farm.addTurbine(1, 6, 1));
        farm.undo();
        Check.answers(11, () -> farm.addTurbine(4, 4, 1));
    }

    static void promise03fail() {
        WindFarmDispatcher farm = Farms.column();
        farm.curtail(1, 10);
        Farms.isChange(farm, 1, () -> farm.fail(1));
        Check.refuses(NONE, () -> farm.limitOf(1));
        Check.answers(true, () -> farm.isFailed(1));
        Check.answers(0, () -> farm.outputOf(1));
        farm.sendCrew(1, 7);
        Check.answers(2, () -> farm.fail(0));
        Farms.rejectsAndKeeps(farm, WindFarmDispatcher.NOT_RUNNING, 7, () -> farm.fail(1));
        Farms.rejectsAndKeeps(farm, WindFarmDispatcher.NOT_RUNNING, 0, () -> farm.fail(0));
        farm.recallCrew(1);
        Farms.rejectsAndKeeps(farm, WindFarmDispatcher.NOT_RUNNING, 0, () -> farm.fail(1));
        for (int turbine : NO_TURBINES) {
            Farms.refusesAndKeeps(farm, OUTSIDE, () -> farm.fail(turbine));
        }
    }

    static void promise04sendCrew() {
        WindFarmDispatcher farm = Farms.column();
        farm.fail(2);
        Farms.isChange(farm, 1, () -> farm.sendCrew(2, 12));
        Farms.rejectsAndKeeps(farm, WindFarmDispatcher.NOT_FAILED, 0, () -> farm.sendCrew(2, 1));
        Farms.rejectsAndKeeps(farm, WindFarmDispatcher.NOT_FAILED, 90, () -> farm.sendCrew(0, 1));
        farm.curtail(0, 17);
        Farms.rejectsAndKeeps(farm, WindFarmDispatcher.NOT_FAILED, 17, () -> farm.sendCrew(0, 1));
        farm.fail(1);
        Check.answers(0, () -> farm.sendCrew(1, 1));
        Check.answers(true, () -> farm.isInService(1));
        farm.fail(0);
        Farms.rejectsAndKeeps(farm, WindFarmDispatcher.NO_CREW, 1, () -> farm.sendCrew(0, 1));
        Farms.rejectsAndKeeps(farm, WindFarmDispatcher.NOT_FAILED, 30, () -> farm.sendCrew(3, 1));
        farm.recallCrew(2);
        farm.sendCrew(0, 1);
        Farms.rejectsAndKeeps(farm, WindFarmDispatcher.NO_CREW, 0, () -> farm.sendCrew(2, 1));
        farm.undo();
        for (int hours : new int[] {0, 13, -1, Integer.MIN_VALUE, Integer.MAX_VALUE}) {
            Farms.refusesAndKeeps(farm, WRONG, () -> farm.sendCrew(0, hours));
            Farms.refusesAndKeeps(farm, WRONG, () -> farm.sendCrew(3, hours));
        }
        for (int turbine : NO_TURBINES) {
            Farms.refusesAndKeeps(farm, OUTSIDE, () -> farm.sendCrew(turbine, 1));
            Farms.refusesAndKeeps(farm, OUTSIDE, () -> farm.sendCrew(turbine, 13));
        }
    }

    static void promise05recallCrew() {
        WindFarmDispatcher farm = Farms.column();
        farm.fail(1);
        farm.sendCrew(1, 6);
        farm.passHours(2);
        Farms.isChange(farm, 4, () -> farm.recallCrew(1));
        Check.answers(true, () -> farm.isFailed(1));
        Check.answers(2, farm::freeCrews);
        Check.refuses(NONE, () -> farm.serviceHoursLeft(1));
        Farms.rejectsAndKeeps(farm, WindFarmDispatcher.NOT_IN_SERVICE, 0, () -> farm.recallCrew(1));
        Farms.rejectsAndKeeps(farm, WindFarmDispatcher.NOT_IN_SERVICE, 90, () -> farm.recallCrew(0));
        farm.passHours(9);
        Check.answers(true, () -> farm.isFailed(1));
        for (int turbine : NO_TURBINES) {
            Farms.refusesAndKeeps(farm, OUTSIDE, () -> farm.recallCrew(turbine));
        }
    }

    static void promise06curtail() {
        WindFarmDispatcher farm = Farms.column();
        Farms.isChange(farm, 40, () -> farm.curtail(0, 40));
        Check.answers(40, () -> farm.limitOf(0));
        Check.answers(0, () -> farm.curtail(0, 0));
        Check.answers(90, () -> farm.curtail(0, 90));
        Check.answers(90, () -> farm.limitOf(0));
        Check.answers(35, () -> farm.curtail(1, 36));
        Check.answers(35, () -> farm.curtail(1, 35));
        Check.answers(34, () -> farm.curtail(1, 34));
        farm.fail(2);
        Farms.rejectsAndKeeps(farm, WindFarmDispatcher.NOT_RUNNING, 0, () -> farm.curtail(2, 5));
        farm.sendCrew(2, 3);
        Farms.rejectsAndKeeps(farm, WindFarmDispatcher.NOT_RUNNING, 3, () -> farm.curtail(2, 5));
        for (int limit : new int[] {-1, 91, Integer.MIN_VALUE, Integer.MAX_VALUE}) {
            Farms.refusesAndKeeps(farm, WRONG, () -> farm.curtail(0, limit));
            Farms.refusesAndKeeps(farm, WRONG, () -> farm.curtail(2, limit));
        }
        for (int turbine : NO_TURBINES) {
            Farms.refusesAndKeeps(farm, OUTSIDE, () -> farm.curtail(turbine, 5));
            Farms.refusesAndKeeps(farm, OUTSIDE, () -> farm.curtail(turbine, 91));
        }
    }

    static void promise07release() {
        WindFarmDispatcher farm = Farms.column();
        farm.curtail(0, 0);
        Farms.isChange(farm, 90, () -> farm.release(0));
        Check.refuses(NONE, () -> farm.limitOf(0));
        Farms.rejectsAndKeeps(farm, WindFarmDispatcher.NOT_CURTAILED, 90, () -> farm.release(0));
        Farms.rejectsAndKeeps(farm, WindFarmDispatcher.NOT_CURTAILED, 30, () -> farm.release(2));
        farm.curtail(1, 90);
        Check.answers(35, () -> farm.release(1));
        farm.fail(2);
        Farms.rejectsAndKeeps(farm, WindFarmDispatcher.NOT_RUNNING, 0, () -> farm.release(2));
        farm.sendCrew(2, 11);
        Farms.rejectsAndKeeps(farm, WindFarmDispatcher.NOT_RUNNING, 11, () -> farm.release(2));
        for (int turbine : NO_TURBINES) {
            Farms.refusesAndKeeps(farm, OUTSIDE, () -> farm.release(turbine));
        }
    }

    static void promise08turbineCount() {
        WindFarmDispatcher farm = Farms.empty();
        for (int count = 0; count < 12; count++) {
            Check.answers(count, farm::turbineCount);
            farm.addTurbine(count % 5, count / 5, 1);
        }
        Check.answers(12, farm::turbineCount);
        farm.fail(3);
        Check.answers(12, farm::turbineCount);
        Farms.isNoChange(farm, farm::turbineCount);
    }

    static void promise09turbineAt() {
        WindFarmDispatcher farm = Farms.column();
        Check.answers(0, () -> farm.turbineAt(0, 0));
        Check.answers(2, () -> farm.turbineAt(2, 0));
        Check.answers(3, () -> farm.turbineAt(4, 5));
        farm.fail(3);
        Check.answers(3, () -> farm.turbineAt(4, 5));
        Check.refuses(NONE, () -> farm.turbineAt(0, 1));
        Check.refuses(NONE, () -> farm.turbineAt(3, 0));
        Check.refuses(NONE, () -> farm.turbineAt(0, 5));
        int[][] outside = {{-1, 0}, {5, 0}, {0, -1}, {0, 6}, {-1, 6}, {-2, 0}, {0, 9}, {0, 10},
            {Integer.MAX_VALUE, 0}, {0, Integer.MIN_VALUE}};
        for (int[] cell : outside) {
            Farms.refusesAndKeeps(farm, OUTSIDE, () -> farm.turbineAt(cell[0], cell[1]));
        }
    }

    static void promise10rowOf() {
        WindFarmDispatcher farm = Farms.column();
        Check.answers(0, () -> farm.rowOf(0));
        Check.answers(2, () -> farm.rowOf(2));
        Check.answers(4, () -> farm.rowOf(3));
        for (int turbine : NO_TURBINES) {
            Farms.refusesAndKeeps(farm, OUTSIDE, () -> farm.rowOf(turbine));
        }
    }

    static void promise11columnOf() {
        WindFarmDispatcher farm = Farms.column();
        Check.answers(0, () -> farm.columnOf(1));
        Check.answers(5, () -> farm.columnOf(3));
        for (int turbine : NO_TURBINES) {
            Farms.refusesAndKeeps(farm, OUTSIDE, () -> farm.columnOf(turbine));
        }
    }

    static void promise12ratedPower() {
        WindFarmDispatcher farm = Farms.column();
        Check.answers(9, () -> farm.ratedPower(0));
        Check.answers(3, () -> farm.ratedPower(3));
        for (int turbine : NO_TURBINES) {
            Farms.refusesAndKeeps(farm, OUTSIDE, () -> farm.ratedPower(turbine));
        }
    }

    static void promise13isRunning() {
        WindFarmDispatcher farm = Farms.column();
        Check.answers(true, () -> farm.isRunning(0));
        farm.curtail(0, 0);
        Check.answers(true, () -> farm.isRunning(0));
        farm.fail(0);
        Check.answers(false, () -> farm.isRunning(0));
        farm.sendCrew(0, 1);
        Check.answers(false, () -> farm.isRunning(0));
        farm.passHours(1);
        Check.answers(true, () -> farm.isRunning(0));
        for (int turbine : NO_TURBINES) {
            Farms.refusesAndKeeps(farm, OUTSIDE, () -> farm.isRunning(turbine));
        }
    }

    static void promise14isFailed() {
        WindFarmDispatcher farm = Farms.column();
        Check.answers(false, () -> farm.isFailed(0));
        farm.fail(0);
        Check.answers(true, () -> farm.isFailed(0));
        Check.answers(false, () -> farm.isFailed(1));
        farm.sendCrew(0, 1);
        Check.answers(false, () -> farm.isFailed(0));
        for (int turbine : NO_TURBINES) {
            Farms.refusesAndKeeps(farm, OUTSIDE, () -> farm.isFailed(turbine));
        }
    }

    static void promise15isInService() {
        WindFarmDispatcher farm = Farms.column();
        Check.answers(false, () -> farm.isInService(0));
        farm.fail(0);
        Check.answers(false, () -> farm.isInService(0));
        farm.sendCrew(0, 2);
        Check.answers(true, () -> farm.isInService(0));
        farm.passHours(1);
        Check.answers(true, () -> farm.isInService(0));
        farm.passHours(1);
        Check.answers(false, () -> farm.isInService(0));
        for (int turbine : NO_TURBINES) {
            Farms.refusesAndKeeps(farm, OUTSIDE, () -> farm.isInService(turbine));
        }
    }

    static void promise16limitOf() {
        WindFarmDispatcher farm = Farms.column();
        Farms.refusesAndKeeps(farm, NONE, () -> farm.limitOf(0));
        farm.curtail(0, 0);
        Check.answers(0, () -> farm.limitOf(0));
        farm.curtail(0, 90);
        Check.answers(90, () -> farm.limitOf(0));
        farm.fail(0);
        Farms.refusesAndKeeps(farm, NONE, () -> farm.limitOf(0));
        farm.sendCrew(0, 1);
        Farms.refusesAndKeeps(farm, NONE, () -> farm.limitOf(0));
        farm.passHours(1);
        Farms.refusesAndKeeps(farm, NONE, () -> farm.limitOf(0));
        for (int turbine : NO_TURBINES) {
            Farms.refusesAndKeeps(farm, OUTSIDE, () -> farm.limitOf(turbine));
        }
    }

    static void promise17serviceHoursLeft() {
        WindFarmDispatcher farm = Farms.column();
        Farms.refusesAndKeeps(farm, NONE, () -> farm.serviceHoursLeft(0));
        farm.fail(0);
        Farms.refusesAndKeeps(farm, NONE, () -> farm.serviceHoursLeft(0));
        farm.sendCrew(0, 12);
        Check.answers(12, () -> farm.serviceHoursLeft(0));
        farm.passHours(11);
        Check.answers(1, () -> farm.serviceHoursLeft(0));
        farm.passHours(1);
        Farms.refusesAndKeeps(farm, NONE, () -> farm.serviceHoursLeft(0));
        for (int turbine : NO_TURBINES) {
            Farms.refusesAndKeeps(farm, OUTSIDE, () -> farm.serviceHoursLeft(turbine));
        }
    }

    static void promise18freeCrews() {
        WindFarmDispatcher farm = Farms.column();
        farm.fail(0);
        farm.fail(1);
        Check.answers(2, farm::freeCrews);
        farm.sendCrew(0, 2);
        Check.answers(1, farm::freeCrews);
        farm.sendCrew(1, 3);
        Check.answers(0, farm::freeCrews);
        farm.passHours(2);
        Check.answers(1, farm::freeCrews);
        farm.recallCrew(1);
        Check.answers(2, farm::freeCrews);
    }
}
