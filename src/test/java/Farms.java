/** Farms to test with, and what can be seen of a farm. */
final class Farms {
    private Farms() {
    }

    static WindFarmDispatcher empty() {
        return new WindFarmDispatcher();
    }

    /** Wind from the north at full power; three turbines under one another, and one alone. */
    static WindFarmDispatcher column() {
        WindFarmDispatcher farm = new WindFarmDispatcher();
        farm.addTurbine(0, 0, 9);
        farm.addTurbine(1, 0, 5);
        farm.addTurbine(2, 0, 5);
        farm.addTurbine(4, 5, 3);
        farm.setWind('N', 12);
        return farm;
    }

    /** Six turbines in each of the rows 0 and 3, all of the given power. */
    static WindFarmDispatcher full(int rated) {
        WindFarmDispatcher farm = new WindFarmDispatcher();
        for (int turbine = 0; turbine < 12; turbine++) {
            farm.addTurbine(turbine / 6 * 3, turbine % 6, rated);
        }
        return farm;
    }

    static void type(WindFarmDispatcher farm, String input) {
        for (char character : input.toCharArray()) {
            farm.appendInput(character);
        }
    }

    static int run(WindFarmDispatcher farm, String input) {
        type(farm, input);
        return farm.execute();
    }

    static String written(WindFarmDispatcher farm, int turbine) {
        StringBuilder text = new StringBuilder();
        int length = farm.writeTurbine(turbine);
        for (int index = 0; index < length; index++) {
            text.append(farm.outputAt(index));
        }
        return text.toString();
    }

    /** All that undo and the snapshot cover. */
    static String dataOf(WindFarmDispatcher farm) {
        StringBuilder text = new StringBuilder();
        text.append(farm.windDirection()).append(farm.windSpeed()).append(" grid ").append(farm.gridLimit());
        text.append(" time ").append(farm.time()).append(" crews ").append(farm.freeCrews());
        text.append(" total ").append(farm.totalOutput()).append(' ').append(farm.totalOutputByLines());
        text.append(" accounts ").append(farm.energyMade()).append(' ').append(farm.energyLost());
        text.append(' ').append(farm.energySold()).append(' ').append(farm.energySpilled());
        text.append(' ').append(farm.coins()).append(' ').append(farm.isConsistent());
        for (int t = 0; t < farm.turbineCount(); t++) {
            int turbine = t;
            text.append("; ").append(farm.rowOf(t)).append(',').append(farm.columnOf(t));
            text.append('p').append(farm.ratedPower(t)).append('=').append(farm.outputOf(t));
            text.append(farm.isRunning(t) ? " runs" : farm.isFailed(t) ? " failed" : " served");
            text.append(' ').append(Check.outcome(() -> farm.limitOf(turbine)));
            text.append(' ').append(Check.outcome(() -> farm.serviceHoursLeft(turbine)));
        }
        for (int hour = 0; hour < 24; hour++) {
            if (farm.hasBid(hour)) {
                text.append("; bid ").append(hour).append(':').append(farm.bidPrice(hour));
                text.append('*').append(farm.bidQuantity(hour));
            }
        }
        return text.toString();
    }

    /** What a call that throws must leave as it was, the latest rejection included. */
    static String allOf(WindFarmDispatcher farm) {
        return dataOf(farm) + "; rejected " + Check.outcome(farm::rejectionReason)
                + ' ' + Check.outcome(farm::rejectionDetail) + ' ' + Check.outcome(farm::causeReason)
                + " syntax " + Check.outcome(farm::syntaxErrorOffset);
    }

    /** Checks that a call throws and that nothing is different after it. */
    static void refusesAndKeeps(WindFarmDispatcher farm, Class<? extends RuntimeException> due, Check.Call call) {
        String before = allOf(farm);
        Check.refuses(due, call);
        Check.answers(before, () -> allOf(farm));
    }

    /** Checks that a call is rejected and that only the latest rejection is different after it. */
    static void rejectsAndKeeps(WindFarmDispatcher farm, int reason, int detail, Check.Call call) {
        String before = dataOf(farm);
        Check.rejects(farm, reason, detail, call);
        Check.answers(before, () -> dataOf(farm));
    }

    /** Checks that a call is none of the changes that can be undone. */
    static void isNoChange(WindFarmDispatcher farm, Check.Call call) {
        forgetChanges(farm);
        Check.outcome(call);
        Check.refuses(IllegalStateException.class, farm::undo);
    }

    /** Checks that a call is a change, and that undo takes back all of it. */
    static void isChange(WindFarmDispatcher farm, Object due, Check.Call call) {
        forgetChanges(farm);
        String before = dataOf(farm);
        Check.answers(due, call);
        Check.answers(0, farm::undo);
        Check.answers(before, () -> dataOf(farm));
        Check.answers(due, call);
    }

    private static void forgetChanges(WindFarmDispatcher farm) {
        farm.saveSnapshot();
        farm.restoreSnapshot();
    }
}
