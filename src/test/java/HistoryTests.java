import java.util.NoSuchElementException;

/** Promises 58 to 63: rejections and history. */
final class HistoryTests {
    private static final Class<? extends RuntimeException> NONE = NoSuchElementException.class;
    private static final Class<? extends RuntimeException> STATE = IllegalStateException.class;

    static void promise58rejectionReason() {
        WindFarmDispatcher farm = Farms.column();
        Check.refuses(NONE, farm::rejectionReason);
        Check.refuses(IndexOutOfBoundsException.class, () -> farm.fail(9));
        Check.refuses(IllegalArgumentException.class, () -> farm.passHours(0));
        Check.refuses(STATE, () -> Farms.run(farm, "f9"));
        Check.refuses(NONE, farm::rejectionReason);
        Check.rejects(farm, WindFarmDispatcher.NO_BID, 0, () -> farm.withdrawBid(1));
        farm.saveSnapshot();
        farm.fail(0);
        Check.rejects(farm, WindFarmDispatcher.NOT_RUNNING, 0, () -> farm.fail(0));
        farm.undo();
        farm.restoreSnapshot();
        Check.answers(WindFarmDispatcher.NOT_RUNNING, farm::rejectionReason);
        Farms.isNoChange(farm, farm::rejectionReason);
    }

    static void promise59rejectionDetail() {
        WindFarmDispatcher farm = Farms.column();
        Check.refuses(NONE, farm::rejectionDetail);
        Check.rejects(farm, WindFarmDispatcher.CELL_TAKEN, 3, () -> farm.addTurbine(4, 5, 1));
        // the detail is that of the call, also if its turbine is different later
        Check.rejects(farm, WindFarmDispatcher.NOT_CURTAILED, 90, () -> farm.release(0));
        farm.setWind('N', 0);
        Check.answers(90, farm::rejectionDetail);
        farm.undo();
        Check.answers(90, farm::rejectionDetail);
    }

    static void promise60causeReason() {
        WindFarmDispatcher farm = Farms.column();
        Check.refuses(NONE, farm::causeReason);
        Check.rejects(farm, WindFarmDispatcher.NO_BID, 0, () -> farm.withdrawBid(1));
        Check.refuses(NONE, farm::causeReason);
        Check.rejects(farm, WindFarmDispatcher.COMMAND_REJECTED, 1, () -> Farms.run(farm, "d;a009"));
        Check.answers(WindFarmDispatcher.CELL_TAKEN, farm::causeReason);
        Check.rejects(farm, WindFarmDispatcher.COMMAND_REJECTED, 0, () -> Farms.run(farm, "q1"));
        Check.answers(WindFarmDispatcher.NO_BID, farm::causeReason);
        farm.undo();
        Check.answers(WindFarmDispatcher.NO_BID, farm::causeReason);
        Check.rejects(farm, WindFarmDispatcher.NO_BID, 0, () -> farm.withdrawBid(1));
        Check.refuses(NONE, farm::causeReason);
    }

    static void promise61undo() {
        WindFarmDispatcher farm = Farms.empty();
        Farms.refusesAndKeeps(farm, STATE, farm::undo);
        farm.setGridLimit(100);
        Check.answers(0, farm::undo);
        Farms.refusesAndKeeps(farm, STATE, farm::undo);
        for (int limit = 1; limit <= 11; limit++) {
            farm.setGridLimit(limit);
        }
        for (int left = 7; left >= 5; left--) {
            Check.answers(left, farm::undo);
        }
        Check.answers(8, farm::gridLimit);
        farm.setGridLimit(50);
        farm.setGridLimit(51);
        for (int left = 6; left >= 0; left--) {
            Check.answers(left, farm::undo);
        }
        Check.answers(3, farm::gridLimit);
        Farms.refusesAndKeeps(farm, STATE, farm::undo);
    }

    /** Each kind of change is undone whole, and what throws is no change. */
    static void promise61undoOfEachChange() {
        WindFarmDispatcher farm = Farms.column();
        String[] states = new String[14];
        int[] at = {0};
        Runnable keep = () -> states[at[0]++] = Farms.dataOf(farm);
        keep.run();
        farm.addTurbine(2, 2, 2);
        keep.run();
        farm.fail(4);
        Check.outcome(() -> farm.fail(4));
        keep.run();
        farm.sendCrew(4, 4);
        Check.outcome(() -> farm.sendCrew(4, 0));
        keep.run();
        farm.placeBid(0, 2, 400);
        Check.outcome(() -> Farms.run(farm, "d;x"));
        keep.run();
        farm.passHours(5);
        Check.outcome(() -> Farms.run(farm, "d;q9"));
        keep.run();
        farm.withdrawBid(0);
        Check.outcome(() -> Farms.run(farm, "d;f9"));
        keep.run();
        farm.dispatch();
        farm.writeTurbine(0);
        keep.run();
        Farms.run(farm, "g50;d;wE7;c0:5;f2;t9");
        for (int left = 7; left >= 0; left--) {
            Check.answers(left, farm::undo);
            Check.answers(states[left], () -> Farms.dataOf(farm));
        }
        Check.refuses(STATE, farm::undo);
    }

    static void promise62saveSnapshot() {
        WindFarmDispatcher farm = Farms.empty();
        Check.answers(0, farm::saveSnapshot);
        farm.addTurbine(0, 0, 9);
        farm.addTurbine(0, 1, 9);
        String saved = Farms.dataOf(farm);
        Check.answers(2, farm::saveSnapshot);
        Check.answers(saved, () -> Farms.dataOf(farm));
        farm.fail(0);
        // saving is no change, and undo leaves the snapshot as it is
        Check.answers(2, farm::undo);
        Check.answers(1, farm::undo);
        Check.answers(2, farm::restoreSnapshot);
        Check.answers(saved, () -> Farms.dataOf(farm));
        Farms.isNoChange(farm, farm::saveSnapshot);
    }

    static void promise63restoreSnapshot() {
        WindFarmDispatcher farm = Farms.column();
        Farms.refusesAndKeeps(farm, STATE, farm::restoreSnapshot);
        Check.answers(4, farm::undo);
        farm.setWind('N', 12);
        farm.placeBid(3, 9, 90);
        farm.fail(2);
        farm.sendCrew(2, 9);
        farm.curtail(1, 4);
        farm.passHours(7);
        farm.saveSnapshot();
        String saved = Farms.dataOf(farm);
        farm.appendInput('d');
        farm.writeTurbine(1);
        farm.addTurbine(4, 0, 1);
        Check.rejects(farm, WindFarmDispatcher.NO_BID, 1, () -> farm.withdrawBid(1));
        Farms.run(farm, ";wE7;t20;v;g6;f0;q3");
        Check.answers(4, farm::restoreSnapshot);
        Check.answers(saved, () -> Farms.dataOf(farm));
        Check.refuses(STATE, farm::undo);
        Check.answers(WindFarmDispatcher.NO_BID, farm::rejectionReason);
        Check.answers('1', () -> farm.outputAt(0));
        farm.appendInput('d');
        farm.passHours(1);
        Check.answers(4, farm::restoreSnapshot);
        Check.answers(saved, () -> Farms.dataOf(farm));
        Check.answers(2, () -> farm.appendInput(';'));
        Farms.isNoChange(farm, farm::restoreSnapshot);
    }
}
