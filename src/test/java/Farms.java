/** Farms to test with, and what can be seen of a farm. An object answers 512 calls alone, so farms are small. */
final class Farms {
    private Farms() {
    }

    static WindFarmDispatcher empty() {
        return new WindFarmDispatcher();
    }

    /** One turbine in the cell 2, 2, and a wind from the north that gives it ten times its rated power. */
    static WindFarmDispatcher alone(int rated) {
        WindFarmDispatcher farm = new WindFarmDispatcher();
        farm.addTurbine(2, 2, rated);
        farm.setWind('N', 12);
        return farm;
    }

    /** Three turbines under one another, and one alone; their outputs are 90, 35, 30 and 30. */
    static WindFarmDispatcher column() {
        WindFarmDispatcher farm = new WindFarmDispatcher();
        farm.addTurbine(0, 0, 9);
        farm.addTurbine(1, 0, 5);
        farm.addTurbine(2, 0, 5);
        farm.addTurbine(4, 5, 3);
        farm.setWind('N', 12);
        return farm;
    }

    /** Six turbines in each of the rows 0 and 3, all of the given power. */
    static WindFarmDispatcher full(int rated) {
        WindFarmDispatcher farm = new WindFarmDispatcher();
        for (int turbine = 0; turbine < 12; turbine++) {
            farm.addTurbine(turbine / 6 * 3, turbine % 6, rated);
        }
        return farm;
    }

    static WindFarmDispatcher full() {
        return full(3);
    }

    /**
     * The column with a turbine that runs, one that is curtailed to 20, one that is failed and one with 5 hours of
     * service left; bids, accounts, a snapshot, three changes, a rejection, a syntax error, an output and an input.
     */
    static WindFarmDispatcher busy() {
        WindFarmDispatcher farm = busyWithoutInput();
        type(farm, "g7");
        return farm;
    }

    static WindFarmDispatcher busyWithoutInput() {
        WindFarmDispatcher farm = column();
        farm.placeBid(1, 10, 100);
        farm.placeBid(20, 30, 400);
        farm.fail(2);
        farm.fail(3);
        farm.sendCrew(3, 7);
        farm.saveSnapshot();
        farm.restoreSnapshot();
        farm.passHours(2);
        farm.curtail(1, 20);
        farm.setGridLimit(150);
        Check.outcome(() -> run(farm, "d;"));
        Check.outcome(() -> farm.withdrawBid(5));
        farm.writeTurbine(1);
        return farm;
    }

    static void type(WindFarmDispatcher farm, String input) {
        for (char character : input.toCharArray()) {
            farm.appendInput(character);
        }
    }

    static int run(WindFarmDispatcher farm, String input) {
        type(farm, input);
        return farm.execute();
    }

    static String written(WindFarmDispatcher farm, int turbine) {
        StringBuilder text = new StringBuilder();
        int length = farm.writeTurbine(turbine);
        for (int index = 0; index < length; index++) {
            text.append(farm.outputAt(index));
        }
        return text.toString();
    }

    /** In which of the three states a turbine is; more or fewer than one would show. */
    static String stateOf(WindFarmDispatcher farm, int turbine) {
        return (farm.isRunning(turbine) ? "running" : "") + (farm.isFailed(turbine) ? "failed" : "")
                + (farm.isInService(turbine) ? "in service" : "");
    }

    /** What undo and the snapshot cover, in few calls. */
    static String sketchOf(WindFarmDispatcher farm) {
        StringBuilder text = new StringBuilder();
        text.append(farm.windDirection()).append(farm.windSpeed()).append(" grid ").append(farm.gridLimit());
        text.append(" time ").append(farm.time()).append(" crews ").append(farm.freeCrews());
        text.append(" turbines ").append(farm.turbineCount()).append(" total ").append(farm.totalOutput());
        text.append(" accounts ").append(farm.energyMade()).append(' ').append(farm.energySold());
        text.append(' ').append(farm.coins()).append(" bid in ").append(Check.outcome(farm::hoursToBid));
        return text.toString();
    }

    /** All that undo and the snapshot cover. */
    static String dataOf(WindFarmDispatcher farm) {
        StringBuilder text = new StringBuilder(sketchOf(farm));
        text.append("; lost ").append(farm.energyLost()).append(" spilled ").append(farm.energySpilled());
        int count = farm.turbineCount();
        for (int turbine = 0; turbine < count; turbine++) {
            text.append("; ").append(turbineOf(farm, turbine));
        }
        Object hour = Check.outcome(() -> farm.bidByPrice(0));
        for (int position = 1; hour instanceof Integer; position++) {
            int next = position;
            text.append("; bid ").append(hour).append(':').append(farm.bidPrice((int) hour));
            text.append('*').append(farm.bidQuantity((int) hour));
            hour = Check.outcome(() -> farm.bidByPrice(next));
        }
        return text.toString();
    }

    private static String turbineOf(WindFarmDispatcher farm, int turbine) {
        return farm.rowOf(turbine) + "," + farm.columnOf(turbine) + "p" + farm.ratedPower(turbine)
                + (farm.isRunning(turbine) ? " runs " : " rests ") + Check.outcome(() -> farm.limitOf(turbine))
                + " " + Check.outcome(() -> farm.serviceHoursLeft(turbine));
    }

    /** What undo and the snapshot do not cover, but for the input. */
    static String messagesOf(WindFarmDispatcher farm) {
        return rejectionOf(farm) + " syntax " + Check.outcome(farm::syntaxErrorOffset) + " output " + outputOf(farm);
    }

    static String rejectionOf(WindFarmDispatcher farm) {
        return "rejected " + Check.outcome(farm::rejectionReason) + ' ' + Check.outcome(farm::rejectionDetail)
                + ' ' + Check.outcome(farm::causeReason);
    }

    static String outputOf(WindFarmDispatcher farm) {
        StringBuilder text = new StringBuilder();
        Object sign = Check.outcome(() -> farm.outputAt(0));
        for (int index = 1; sign instanceof Character; index++) {
            int next = index;
            text.append(sign);
            sign = Check.outcome(() -> farm.outputAt(next));
        }
        return text.toString();
    }
}
