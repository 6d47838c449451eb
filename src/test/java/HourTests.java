import java.util.NoSuchElementException;

/** Promises 40 to 52: hours, accounts and orders. */
final class HourTests {
    private static final Class<? extends RuntimeException> WRONG = IllegalArgumentException.class;
    private static final Class<? extends RuntimeException> NONE = NoSuchElementException.class;
    private static final int[] NO_NUMBERS_OF_HOURS = {0, 49, -1, Integer.MIN_VALUE, Integer.MAX_VALUE};

    private static void accounts(WindFarmDispatcher farm, long made, long lost, long sold, long spilled, long coins) {
        Check.answers(made, farm::energyMade);
        Check.answers(lost, farm::energyLost);
        Check.answers(sold, farm::energySold);
        Check.answers(spilled, farm::energySpilled);
        Check.answers(coins, farm::coins);
        Check.answers(true, farm::isConsistent);
    }

    static void promise40passHours() {
        WindFarmDispatcher farm = Farms.column();
        Farms.isChange(farm, 0, () -> farm.passHours(1));
        accounts(farm, 185, 9, 0, 176, 0);
        farm.placeBid(1, 10, 100);
        farm.placeBid(2, 3, 176);
        farm.placeBid(3, 7, 200);
        Check.answers(100, () -> farm.passHours(1));
        accounts(farm, 370, 18, 100, 252, 1000);
        Check.answers(176, () -> farm.passHours(1));
        accounts(farm, 555, 27, 276, 252, 1528);
        Check.answers(176, () -> farm.passHours(1));
        accounts(farm, 740, 36, 452, 252, 1528 + 7 * (176 - 24));
        for (int hours : NO_NUMBERS_OF_HOURS) {
            Farms.refusesAndKeeps(farm, WRONG, () -> farm.passHours(hours));
        }
        Farms.isChange(farm, 452, () -> farm.passHours(24));
        Check.answers(904, () -> farm.passHours(48));
        Check.answers(76, farm::time);
    }

    /** A turbine comes back after the accounts of an hour, and makes wakes from the next hour on. */
    static void promise40passHoursWithService() {
        WindFarmDispatcher farm = Farms.column();
        farm.curtail(0, 1);
        farm.fail(0);
        farm.fail(1);
        farm.fail(2);
        farm.sendCrew(0, 2);
        farm.sendCrew(1, 1);
        farm.placeBid(0, 1, 500);
        farm.passHours(1);
        accounts(farm, 30, 1, 29, 0, 29 - 471);
        Check.answers(1, () -> farm.serviceHoursLeft(0));
        Check.answers(true, () -> farm.isRunning(1));
        farm.passHours(1);
        accounts(farm, 30 + 80, 1 + 4, 29, 76, 29 - 471);
        Check.answers(90 + 35 + 30, farm::totalOutput);
        Check.refuses(NONE, () -> farm.limitOf(0));
        Check.answers(true, () -> farm.isFailed(2));
        Check.answers(2, farm::freeCrews);
    }

    static void promise40lossIsRoundedDown() {
        WindFarmDispatcher farm = Farms.empty();
        farm.addTurbine(0, 0, 2);
        farm.setWind('N', 12);
        farm.curtail(0, 19);
        farm.passHours(1);
        accounts(farm, 19, 0, 0, 19, 0);
        farm.curtail(0, 20);
        farm.passHours(1);
        accounts(farm, 39, 1, 0, 38, 0);
    }

    static void promise41time() {
        WindFarmDispatcher farm = Farms.empty();
        Check.answers(0, farm::time);
        farm.passHours(48);
        Check.answers(48, farm::time);
        farm.passHours(1);
        Check.answers(49, farm::time);
        Farms.run(farm, "t12;t13");
        Check.answers(74, farm::time);
    }

    static void promise42incomeWithin() {
        WindFarmDispatcher farm = Farms.column();
        farm.placeBid(1, 10, 100);
        farm.placeBid(23, 2, 500);
        farm.fail(0);
        farm.sendCrew(0, 3);
        farm.passHours(22);
        farm.fail(3);
        farm.sendCrew(3, 2);
        for (int hours : new int[] {1, 2, 3, 4, 27, 28, 48}) {
            String before = Farms.allOf(farm);
            int income = farm.incomeWithin(hours);
            Check.answers(before, () -> Farms.allOf(farm));
            long coins = farm.coins();
            farm.passHours(hours);
            Check.answers(coins + income, farm::coins);
            farm.undo();
        }
        Check.answers(0, () -> farm.incomeWithin(1));
        // 155 made and 7 lost: 148 sold, 352 not
        Check.answers(-408, () -> farm.incomeWithin(2));
        Farms.isNoChange(farm, () -> farm.incomeWithin(48));
        for (int hours : NO_NUMBERS_OF_HOURS) {
            Farms.refusesAndKeeps(farm, WRONG, () -> farm.incomeWithin(hours));
        }
    }

    static void promise43hoursToBid() {
        WindFarmDispatcher farm = Farms.empty();
        Farms.refusesAndKeeps(farm, NONE, farm::hoursToBid);
        farm.placeBid(0, 1, 1);
        Check.answers(0, farm::hoursToBid);
        farm.passHours(1);
        Check.answers(23, farm::hoursToBid);
        farm.placeBid(20, 1, 1);
        Check.answers(19, farm::hoursToBid);
        farm.passHours(24);
        Check.answers(19, farm::hoursToBid);
        farm.passHours(19);
        Check.answers(0, farm::hoursToBid);
        farm.withdrawBid(20);
        Check.answers(4, farm::hoursToBid);
        farm.withdrawBid(0);
        Farms.refusesAndKeeps(farm, NONE, farm::hoursToBid);
    }

    static void promise44energyMade() {
        WindFarmDispatcher farm = Farms.full(9);
        farm.setWind('N', 12);
        for (int day = 1; day <= 100; day++) {
            farm.passHours(48);
        }
        Check.answers(1080L * 4800, farm::energyMade);
        Farms.isNoChange(farm, farm::energyMade);
    }

    static void promise45energyLost() {
        WindFarmDispatcher farm = Farms.column();
        farm.passHours(3);
        Check.answers(27L, farm::energyLost);
        farm.setWind('N', 2);
        farm.passHours(3);
        Check.answers(27L, farm::energyLost);
    }

    static void promise46energySold() {
        WindFarmDispatcher farm = Farms.column();
        farm.placeBid(2, 1, 1);
        farm.passHours(2);
        Check.answers(0L, farm::energySold);
        farm.passHours(48);
        Check.answers(2L, farm::energySold);
    }

    static void promise47energySpilled() {
        WindFarmDispatcher farm = Farms.column();
        farm.placeBid(1, 1, 6);
        farm.passHours(1);
        Check.answers(176L, farm::energySpilled);
        farm.passHours(1);
        Check.answers(346L, farm::energySpilled);
    }

    static void promise48coins() {
        WindFarmDispatcher farm = Farms.empty();
        for (int hour = 0; hour < 24; hour++) {
            farm.placeBid(hour, 50, 500);
        }
        for (int pair = 1; pair <= 100; pair++) {
            farm.passHours(48);
        }
        Check.answers(-120_000_000L, farm::coins);
        Check.answers(-1_200_000, () -> farm.incomeWithin(48));
    }

    static void promise49turbineByOutput() {
        WindFarmDispatcher farm = Farms.column();
        farm.addTurbine(4, 3, 3);
        order(farm, 0, 1, 2, 3, 4);
        farm.curtail(0, 30);
        // 30 with 9, 35, 30 with 5, 30 with 3 twice
        order(farm, 1, 0, 2, 3, 4);
        farm.fail(2);
        farm.curtail(1, 0);
        order(farm, 0, 3, 4, 1, 2);
        farm.setWind('N', 0);
        order(farm, 0, 1, 2, 3, 4);
        for (int position : new int[] {5, 12, -1, Integer.MIN_VALUE, Integer.MAX_VALUE}) {
            Farms.refusesAndKeeps(farm, NONE, () -> farm.turbineByOutput(position));
        }
        Check.refuses(NONE, () -> Farms.empty().turbineByOutput(0));
    }

    static void promise49turbineByOutputOfTheSameOutput() {
        WindFarmDispatcher farm = Farms.empty();
        farm.addTurbine(0, 0, 2);
        farm.addTurbine(0, 2, 3);
        farm.addTurbine(2, 1, 9);
        farm.addTurbine(4, 4, 3);
        order(farm, 2, 1, 3, 0);
        farm.setWind('S', 12);
        farm.curtail(1, 21);
        farm.curtail(2, 20);
        farm.curtail(3, 21);
        order(farm, 1, 3, 2, 0);
    }

    private static void order(WindFarmDispatcher farm, int... due) {
        for (int at = 0; at < due.length; at++) {
            int position = at;
            Check.answers(due[at], () -> farm.turbineByOutput(position));
        }
    }

    static void promise50meanOutput() {
        WindFarmDispatcher farm = Farms.empty();
        Farms.refusesAndKeeps(farm, ArithmeticException.class, farm::meanOutput);
        farm.addTurbine(2, 2, 7);
        farm.setWind('S', 4);
        Check.answers(14.0, farm::meanOutput);
        WindFarmDispatcher column = Farms.column();
        Check.answers(46.25, column::meanOutput);
        column.addTurbine(3, 3, 1);
        column.addTurbine(3, 5, 1);
        // the turbine 3 stands in the wake of the new one
        Check.answers(196.0 / 6.0, column::meanOutput);
        column.setWind('N', 0);
        Check.answers(0.0, column::meanOutput);
    }

    static void promise51runningShare() {
        WindFarmDispatcher farm = Farms.empty();
        Farms.refusesAndKeeps(farm, ArithmeticException.class, farm::runningShare);
        farm.addTurbine(2, 2, 7);
        farm.fail(0);
        Check.answers(0.0f, farm::runningShare);
        WindFarmDispatcher column = Farms.column();
        Check.answers(1.0f, column::runningShare);
        column.curtail(0, 0);
        Check.answers(1.0f, column::runningShare);
        column.addTurbine(3, 2, 1);
        column.addTurbine(3, 3, 1);
        column.fail(0);
        column.sendCrew(0, 1);
        Check.answers(5.0f / 6.0f, column::runningShare);
        column.fail(1);
        Check.answers(4.0f / 6.0f, column::runningShare);
    }

    static void promise52isConsistent() {
        WindFarmDispatcher farm = Farms.full(9);
        farm.setWind('S', 9);
        farm.placeBid(2, 9, 300);
        farm.fail(4);
        farm.fail(5);
        farm.sendCrew(4, 9);
        farm.sendCrew(5, 12);
        farm.setGridLimit(500);
        farm.dispatch();
        farm.passHours(30);
        Check.answers(true, farm::isConsistent);
        Farms.isNoChange(farm, farm::isConsistent);
    }
}
