import java.util.LinkedHashMap;
import java.util.Map;

/** The terms of the rejections, the changes and the exceptions, the reasons, and the length of an object's life. */
final class RuleTests {
    private static final String CHANGE = "A change is a call of addTurbine, fail, sendCrew, recallCrew, curtail, release, "
            + "setWind, setGridLimit, dispatch, releaseAll, placeBid, withdrawBid, passHours or execute that returns a "
            + "value, also if nothing is different after it.";
    private static final String COVER = "Undo and the snapshot cover everything but the input, the output, the latest "
            + "rejection and the latest syntax error.";
    private static final String LIFE =
            "An object is used for at most 512 calls after it has been made; what later calls answer is free.";

    // ---- the reasons

    @Sentence("`TURBINE_LIMIT = 1`: Reason: there are 12 turbines. The detail is 12.")
    static void termsTurbineLimit() {
        Check.answers(1, () -> WindFarmDispatcher.TURBINE_LIMIT);
        Twins.rejects(1, 12, Farms::full, farm -> farm.addTurbine(4, 5, 1));
        Twins.Maker eleven = () -> {
            WindFarmDispatcher farm = Farms.full();
            farm.undo();
            return farm;
        };
        Twins.changes(11, eleven, farm -> farm.addTurbine(4, 5, 1));
    }

    @Sentence("`CELL_TAKEN = 2`: Reason: the cell holds a turbine. The detail is the index of this turbine.")
    static void termsCellTaken() {
        Check.answers(2, () -> WindFarmDispatcher.CELL_TAKEN);
        Twins.rejects(2, 0, Farms::busy, farm -> farm.addTurbine(0, 0, 1));
        Twins.rejects(2, 2, Farms::busy, farm -> farm.addTurbine(2, 0, 1));
        Twins.rejects(2, 3, Farms::busy, farm -> farm.addTurbine(4, 5, 9));
    }

    @Sentence("`NOT_RUNNING = 3`: Reason: the turbine is not running. The detail is the number of hours that its service "
            + "still takes, or 0 if it is failed.")
    static void termsNotRunning() {
        Check.answers(3, () -> WindFarmDispatcher.NOT_RUNNING);
        Twins.rejects(3, 0, Farms::busy, farm -> farm.fail(2));
        Twins.rejects(3, 5, Farms::busy, farm -> farm.fail(3));
        Twins.Maker recalled = () -> {
            WindFarmDispatcher farm = Farms.busy();
            farm.recallCrew(3);
            return farm;
        };
        Twins.rejects(3, 0, recalled, farm -> farm.curtail(3, 1));
        Twins.Maker broken = () -> {
            WindFarmDispatcher farm = Farms.busy();
            farm.passHours(5);
            farm.fail(3);
            return farm;
        };
        Twins.rejects(3, 0, broken, farm -> farm.release(3));
    }

    @Sentence("`NOT_FAILED = 4`: Reason: the turbine is not failed. The detail is its output.")
    static void termsNotFailed() {
        Check.answers(4, () -> WindFarmDispatcher.NOT_FAILED);
        Twins.rejects(4, 90, Farms::busy, farm -> farm.sendCrew(0, 1));
        Twins.rejects(4, 20, Farms::busy, farm -> farm.sendCrew(1, 1));
        Twins.rejects(4, 0, Farms::busy, farm -> farm.sendCrew(3, 1));
        Twins.rejects(4, 0, Farms::full, farm -> farm.sendCrew(11, 1));
    }

    @Sentence("`NO_CREW = 5`: Reason: no crew is free. The detail is the lowest index of a turbine in service.")
    static void termsNoCrew() {
        Check.answers(5, () -> WindFarmDispatcher.NO_CREW);
        Twins.rejects(5, 0, () -> served(0, 1), farm -> farm.sendCrew(2, 1));
        Twins.rejects(5, 0, () -> served(2, 0), farm -> farm.sendCrew(1, 1));
        Twins.rejects(5, 1, () -> served(1, 2), farm -> farm.sendCrew(0, 1));
        Twins.changes(0, Farms::busy, farm -> farm.sendCrew(2, 1));
    }

    /** Three failed turbines, of which two get a crew. */
    private static WindFarmDispatcher served(int first, int second) {
        WindFarmDispatcher farm = Farms.column();
        farm.fail(0);
        farm.fail(1);
        farm.fail(2);
        farm.sendCrew(first, 4);
        farm.sendCrew(second, 3);
        return farm;
    }

    @Sentence("`NOT_IN_SERVICE = 6`: Reason: the turbine is not in service. The detail is its output.")
    static void termsNotInService() {
        Check.answers(6, () -> WindFarmDispatcher.NOT_IN_SERVICE);
        Twins.rejects(6, 90, Farms::busy, farm -> farm.recallCrew(0));
        Twins.rejects(6, 20, Farms::busy, farm -> farm.recallCrew(1));
        Twins.rejects(6, 0, Farms::busy, farm -> farm.recallCrew(2));
    }

    @Sentence("`NOT_CURTAILED = 7`: Reason: the turbine is not curtailed. The detail is its output.")
    static void termsNotCurtailed() {
        Check.answers(7, () -> WindFarmDispatcher.NOT_CURTAILED);
        Twins.rejects(7, 90, Farms::busy, farm -> farm.release(0));
        Twins.rejects(7, 35, Farms::column, farm -> farm.release(1));
        Twins.rejects(7, 0, Farms::full, farm -> farm.release(11));
    }

    @Sentence("`BID_EXISTS = 8`: Reason: there is a bid for the hour of the day. The detail is its price.")
    static void termsBidExists() {
        Check.answers(8, () -> WindFarmDispatcher.BID_EXISTS);
        Twins.rejects(8, 10, Farms::busy, farm -> farm.placeBid(1, 50, 500));
        Twins.rejects(8, 30, Farms::busy, farm -> farm.placeBid(20, 1, 1));
    }

    @Sentence("`NO_BID = 9`: Reason: there is no bid for the hour of the day. The detail is the number of bids.")
    static void termsNoBid() {
        Check.answers(9, () -> WindFarmDispatcher.NO_BID);
        Twins.rejects(9, 0, Farms::column, farm -> farm.withdrawBid(0));
        Twins.rejects(9, 2, Farms::busy, farm -> farm.withdrawBid(0));
        Twins.Maker most = () -> {
            WindFarmDispatcher farm = Farms.empty();
            for (int hour = 0; hour < 23; hour++) {
                farm.placeBid(hour, 1, 1);
            }
            return farm;
        };
        Twins.rejects(9, 23, most, farm -> farm.withdrawBid(23));
    }

    @Sentence("`COMMAND_REJECTED = 10`: Reason: a command is rejected. The detail is the number of the command, from 0. The "
            + "reason for which the method of this command rejects it is the cause.")
    static void termsCommandRejected() {
        Check.answers(10, () -> WindFarmDispatcher.COMMAND_REJECTED);
        commandRejected(Farms::full, "a001", 0, WindFarmDispatcher.TURBINE_LIMIT);
        commandRejected(Farms::busyWithoutInput, "d;a331;a331", 2, WindFarmDispatcher.CELL_TAKEN);
        commandRejected(Farms::busyWithoutInput, "f0;f0", 1, WindFarmDispatcher.NOT_RUNNING);
        commandRejected(Farms::busyWithoutInput, "c2:1", 0, WindFarmDispatcher.NOT_RUNNING);
        commandRejected(Farms::busyWithoutInput, "u3", 0, WindFarmDispatcher.NOT_RUNNING);
        commandRejected(Farms::busyWithoutInput, "s0:1", 0, WindFarmDispatcher.NOT_FAILED);
        commandRejected(Farms::busyWithoutInput, "s2:1;f0;s0:1", 2, WindFarmDispatcher.NO_CREW);
        commandRejected(Farms::busyWithoutInput, "r3;d;v;r3", 3, WindFarmDispatcher.NOT_IN_SERVICE);
        commandRejected(Farms::busyWithoutInput, "u1;u1", 1, WindFarmDispatcher.NOT_CURTAILED);
        commandRejected(Farms::busyWithoutInput, "v;b1:1*1", 1, WindFarmDispatcher.BID_EXISTS);
        commandRejected(Farms::busyWithoutInput, "q1;q20;q1", 2, WindFarmDispatcher.NO_BID);
        commandRejected(Farms::empty, "d;".repeat(28) + "q0", 28, WindFarmDispatcher.NO_BID);
    }

    private static void commandRejected(Twins.Maker maker, String input, int number, int cause) {
        Twins.rejects(10, number, maker, farm -> Farms.run(farm, input));
        WindFarmDispatcher farm = maker.make();
        Check.outcome(() -> Farms.run(farm, input));
        Check.answers(cause, farm::causeReason);
    }

    // ---- rejections

    @Sentence("A call is rejected for the first reason that applies, in the order in which its method names them.")
    static void termsFirstReasonApplies() {
        Twins.rejects(WindFarmDispatcher.TURBINE_LIMIT, 12, Farms::full, farm -> farm.addTurbine(0, 0, 1));
        Twins.rejects(WindFarmDispatcher.NOT_FAILED, 30, () -> served(0, 1), farm -> farm.sendCrew(3, 1));
        Twins.rejects(WindFarmDispatcher.NOT_FAILED, 0, () -> served(0, 1), farm -> farm.sendCrew(1, 1));
        Twins.rejects(WindFarmDispatcher.NOT_RUNNING, 0, Farms::busy, farm -> farm.release(2));
        Twins.rejects(WindFarmDispatcher.NOT_RUNNING, 5, Farms::busy, farm -> farm.release(3));
    }

    @Sentence("Every reason is a constant, and has a detail that is described there.")
    static void termsEveryReasonHasADetail() {
        WindFarmDispatcher farm = Farms.full();
        Check.rejects(farm, WindFarmDispatcher.TURBINE_LIMIT, 12, () -> farm.addTurbine(4, 5, 1));
        Check.rejects(farm, WindFarmDispatcher.NOT_CURTAILED, 0, () -> farm.release(4));
        farm.setWind('N', 3);
        Check.rejects(farm, WindFarmDispatcher.NOT_CURTAILED, 6, () -> farm.release(4));
        Check.rejects(farm, WindFarmDispatcher.NOT_FAILED, 6, () -> farm.sendCrew(4, 1));
        Check.rejects(farm, WindFarmDispatcher.NOT_IN_SERVICE, 6, () -> farm.recallCrew(4));
        Check.rejects(farm, WindFarmDispatcher.NO_BID, 0, () -> farm.withdrawBid(4));
        farm.placeBid(4, 44, 444);
        Check.rejects(farm, WindFarmDispatcher.BID_EXISTS, 44, () -> farm.placeBid(4, 1, 1));
        farm.fail(4);
        farm.fail(5);
        farm.fail(6);
        Check.rejects(farm, WindFarmDispatcher.NOT_RUNNING, 0, () -> farm.fail(4));
        farm.sendCrew(6, 6);
        farm.sendCrew(5, 7);
        Check.rejects(farm, WindFarmDispatcher.NOT_RUNNING, 7, () -> farm.fail(5));
        Check.rejects(farm, WindFarmDispatcher.NO_CREW, 5, () -> farm.sendCrew(4, 1));
        Check.rejects(farm, WindFarmDispatcher.COMMAND_REJECTED, 1, () -> Farms.run(farm, "d;f6;g1"));
        WindFarmDispatcher column = Farms.column();
        Check.rejects(column, WindFarmDispatcher.CELL_TAKEN, 3, () -> column.addTurbine(4, 5, 1));
    }

    /** Also the input, the output, the snapshot, the syntax error and the changes that can be undone stay. */
    @Sentence("A rejected call changes nothing but the latest rejection.")
    static void termsRejectedCallChangesNothing() {
        Twins.rejects(WindFarmDispatcher.CELL_TAKEN, 1, Farms::busy, farm -> farm.addTurbine(1, 0, 2));
        Twins.rejects(WindFarmDispatcher.NOT_RUNNING, 5, Farms::busy, farm -> farm.fail(3));
        Twins.rejects(WindFarmDispatcher.NOT_FAILED, 20, Farms::busy, farm -> farm.sendCrew(1, 2));
        Twins.rejects(WindFarmDispatcher.NOT_IN_SERVICE, 0, Farms::busy, farm -> farm.recallCrew(2));
        Twins.rejects(WindFarmDispatcher.NOT_RUNNING, 0, Farms::busy, farm -> farm.curtail(2, 9));
        Twins.rejects(WindFarmDispatcher.NOT_CURTAILED, 90, Farms::busy, farm -> farm.release(0));
        Twins.rejects(WindFarmDispatcher.BID_EXISTS, 10, Farms::busy, farm -> farm.placeBid(1, 2, 3));
        Twins.rejects(WindFarmDispatcher.NO_BID, 2, Farms::busy, farm -> farm.withdrawBid(2));
        Twins.rejects(WindFarmDispatcher.COMMAND_REJECTED, 2, Farms::busyWithoutInput,
                farm -> Farms.run(farm, "t3;v;f2"));
    }

    // ---- changes

    @Sentence(CHANGE)
    static void termsChangesCanBeUndone() {
        Twins.changes(4, Farms::busy, farm -> farm.addTurbine(3, 3, 3));
        Twins.changes(3, Farms::busy, farm -> farm.fail(1));
        Twins.changes(0, Farms::busy, farm -> farm.sendCrew(2, 2));
        Twins.changes(5, Farms::busy, farm -> farm.recallCrew(3));
        Twins.changes(15, Farms::busy, farm -> farm.curtail(1, 15));
        Twins.changes(35, Farms::busy, farm -> farm.release(1));
        Twins.changes(38, Farms::busy, farm -> farm.setWind('S', 6));
        Twins.changes(150, Farms::busy, farm -> farm.setGridLimit(12));
        Twins.changes(2, RuleTests::overloaded, WindFarmDispatcher::dispatch);
        Twins.changes(1, Farms::busy, WindFarmDispatcher::releaseAll);
        Twins.changes(3, Farms::busy, farm -> farm.placeBid(2, 2, 2));
        Twins.changes(400, Farms::busy, farm -> farm.withdrawBid(20));
        Twins.changes(233, Farms::busy, farm -> farm.passHours(30));
        Twins.changes(4, Farms::busyWithoutInput, farm -> Farms.run(farm, "f0;wS3;g5;t9"));
    }

    private static WindFarmDispatcher overloaded() {
        WindFarmDispatcher farm = Farms.column();
        farm.setGridLimit(94);
        return farm;
    }

    @Sentence(CHANGE)
    static void termsChangeMayLeaveAllAsItIs() {
        Twins.changes(20, Farms::busy, farm -> farm.curtail(1, 20));
        Twins.changes(110, Farms::busy, farm -> farm.setWind('N', 12));
        Twins.changes(150, Farms::busy, farm -> farm.setGridLimit(150));
        Twins.changes(0, Farms::busy, WindFarmDispatcher::dispatch);
        Twins.changes(0, Farms::column, WindFarmDispatcher::releaseAll);
        Twins.changes(0, Farms::empty, WindFarmDispatcher::dispatch);
        Twins.changes(1, Farms::busyWithoutInput, farm -> Farms.run(farm, "d"));
    }

    @Sentence(CHANGE)
    static void termsOtherCallsAreNoChanges() {
        for (Map.Entry<Twins.Use, Object> call : readingCalls().entrySet()) {
            Twins.reads(call.getValue(), Farms::busy, call.getKey());
        }
        WindFarmDispatcher farm = Farms.busy();
        farm.writeTurbine(0);
        farm.appendInput('d');
        farm.saveSnapshot();
        Check.outcome(farm::execute);
        Check.outcome(() -> farm.fail(2));
        Check.answers(3, () -> undoAll(farm));
        farm.restoreSnapshot();
        Check.answers(0, () -> undoAll(farm));
    }

    private static int undoAll(WindFarmDispatcher farm) {
        int undone = 0;
        while (undone < 20 && Check.outcome(farm::undo) instanceof Integer) {
            undone++;
        }
        return undone;
    }

    /** The calls that change nothing, and what they answer for the busy farm. */
    private static Map<Twins.Use, Object> readingCalls() {
        Map<Twins.Use, Object> calls = new LinkedHashMap<>();
        calls.put(WindFarmDispatcher::turbineCount, 4);
        calls.put(farm -> farm.turbineAt(2, 0), 2);
        calls.put(farm -> farm.rowOf(3), 4);
        calls.put(farm -> farm.columnOf(3), 5);
        calls.put(farm -> farm.ratedPower(0), 9);
        calls.put(farm -> farm.isRunning(1), true);
        calls.put(farm -> farm.isFailed(2), true);
        calls.put(farm -> farm.isInService(3), true);
        calls.put(farm -> farm.limitOf(1), 20);
        calls.put(farm -> farm.serviceHoursLeft(3), 5);
        calls.put(WindFarmDispatcher::freeCrews, 1);
        calls.put(WindFarmDispatcher::windDirection, 'N');
        calls.put(WindFarmDispatcher::windSpeed, 12);
        calls.put(WindFarmDispatcher::powerFactor, 10);
        calls.put(farm -> farm.wakeLoss(2), 4);
        calls.put(farm -> farm.availablePower(1), 35);
        calls.put(farm -> farm.outputOf(1), 20);
        calls.put(WindFarmDispatcher::totalOutput, 110);
        calls.put(WindFarmDispatcher::totalOutputByLines, 110);
        calls.put(farm -> farm.outputWith('S', 5), 38);
        calls.put(WindFarmDispatcher::bestDirection, 'N');
        calls.put(WindFarmDispatcher::gridLimit, 150);
        calls.put(farm -> farm.hasBid(20), true);
        calls.put(farm -> farm.bidPrice(20), 30);
        calls.put(farm -> farm.bidQuantity(20), 400);
        calls.put(farm -> farm.bidByPrice(1), 1);
        calls.put(WindFarmDispatcher::time, 2);
        calls.put(farm -> farm.incomeWithin(24), -3020);
        calls.put(WindFarmDispatcher::hoursToBid, 18);
        calls.put(WindFarmDispatcher::energyMade, 250L);
        calls.put(WindFarmDispatcher::energyLost, 12L);
        calls.put(WindFarmDispatcher::energySold, 100L);
        calls.put(WindFarmDispatcher::energySpilled, 138L);
        calls.put(WindFarmDispatcher::coins, 1000L);
        calls.put(farm -> farm.turbineByOutput(1), 1);
        calls.put(WindFarmDispatcher::meanOutput, 27.5);
        calls.put(WindFarmDispatcher::runningShare, 0.5f);
        calls.put(WindFarmDispatcher::isConsistent, true);
        calls.put(farm -> farm.outputAt(1), '@');
        calls.put(WindFarmDispatcher::syntaxErrorOffset, 2);
        calls.put(WindFarmDispatcher::rejectionReason, 9);
        calls.put(WindFarmDispatcher::rejectionDetail, 2);
        return calls;
    }

    @Sentence("The latest 8 changes can be undone.")
    static void termsLatestEightChangesCanBeUndone() {
        for (int changes = 0; changes <= 20; changes++) {
            WindFarmDispatcher farm = Farms.empty();
            for (int limit = 1; limit <= changes; limit++) {
                farm.setGridLimit(limit);
            }
            int undone = Math.min(changes, 8);
            Check.answers(undone, () -> undoAll(farm));
            Check.answers(changes > undone ? changes - undone : 999, farm::gridLimit);
        }
    }

    /** Changes behind an undoing take the places of those that are undone. */
    @Sentence("The latest 8 changes can be undone.")
    static void termsLatestEightChangesAfterAnUndo() {
        WindFarmDispatcher farm = Farms.empty();
        for (int limit = 1; limit <= 10; limit++) {
            farm.setGridLimit(limit);
        }
        farm.undo();
        farm.undo();
        farm.undo();
        Check.answers(7, farm::gridLimit);
        farm.setGridLimit(107);
        farm.setGridLimit(108);
        int[] due = {107, 7, 6, 5, 4, 3, 2};
        for (int index = 0; index < due.length; index++) {
            Check.answers(due.length - 1 - index, farm::undo);
            Check.answers(due[index], farm::gridLimit);
        }
        Check.refuses(Check.STATE, farm::undo);
    }

    @Sentence(COVER)
    static void termsUndoCoversEverything() {
        WindFarmDispatcher farm = Farms.busyWithoutInput();
        String before = Farms.dataOf(farm);
        Farms.run(farm, "a111;f0;s0:1;t1;f4;r3;c1:9;wW7;g80;b0:1*2;q20;t40");
        Check.isTrue("much is different", !Farms.dataOf(farm).equals(before));
        farm.undo();
        Check.answers(before, () -> Farms.dataOf(farm));
    }

    @Sentence(COVER)
    static void termsSnapshotCoversEverything() {
        WindFarmDispatcher farm = Farms.busyWithoutInput();
        String before = Farms.dataOf(farm);
        farm.saveSnapshot();
        Farms.run(farm, "a111;f0;s0:1;t1;f4;r3;c1:9;wW7;g80;b0:1*2;q20;t40");
        farm.restoreSnapshot();
        Check.answers(before, () -> Farms.dataOf(farm));
    }

    @Sentence(COVER)
    static void termsUndoLeavesTheMessages() {
        WindFarmDispatcher farm = withNewMessages(Farms.busyWithoutInput());
        String messages = Farms.messagesOf(farm);
        Check.answers(messages, () -> Farms.messagesOf(withNewMessages(Farms.busyWithoutInput())));
        farm.undo();
        farm.undo();
        farm.undo();
        Check.answers(messages, () -> Farms.messagesOf(farm));
        Check.answers(3, () -> farm.appendInput('1'));
        Check.answers(1, farm::execute);
        Check.answers(1, farm::gridLimit);
    }

    @Sentence(COVER)
    static void termsSnapshotLeavesTheMessages() {
        WindFarmDispatcher farm = Farms.busyWithoutInput();
        farm.saveSnapshot();
        withNewMessages(farm);
        String messages = Farms.messagesOf(farm);
        farm.restoreSnapshot();
        Check.answers(messages, () -> Farms.messagesOf(farm));
        Check.answers(3, () -> farm.appendInput('1'));
        Check.answers(1, farm::execute);
        Check.answers(1, farm::gridLimit);
    }

    /** A change, and after it another rejection, syntax error and output, and the input "g0". */
    private static WindFarmDispatcher withNewMessages(WindFarmDispatcher farm) {
        farm.passHours(1);
        Check.outcome(() -> Farms.run(farm, "d;v;x"));
        Check.outcome(() -> Farms.run(farm, "d;f3"));
        farm.writeTurbine(3);
        Farms.type(farm, "g0");
        Check.answers(4, farm::syntaxErrorOffset);
        Check.answers(WindFarmDispatcher.NOT_RUNNING, farm::causeReason);
        Check.answers("3@4,5p3=0s4", () -> Farms.outputOf(farm));
        return farm;
    }

    // ---- exceptions

    @Sentence("A call that throws an exception changes nothing, except where this is stated.")
    static void termsThrowingCallChangesNothing() {
        Twins.refuses(Check.INDEX, Farms::busy, farm -> farm.addTurbine(5, 0, 1));
        Twins.refuses(Check.ARGUMENT, Farms::busy, farm -> farm.addTurbine(3, 0, 10));
        Twins.refuses(Check.INDEX, Farms::busy, farm -> farm.fail(4));
        Twins.refuses(Check.ARGUMENT, Farms::busy, farm -> farm.sendCrew(2, 13));
        Twins.refuses(Check.INDEX, Farms::busy, farm -> farm.recallCrew(-1));
        Twins.refuses(Check.ARGUMENT, Farms::busy, farm -> farm.curtail(0, 91));
        Twins.refuses(Check.INDEX, Farms::busy, farm -> farm.release(4));
        Twins.refuses(Check.ARGUMENT, Farms::busy, farm -> farm.setWind('E', 31));
        Twins.refuses(Check.ARGUMENT, Farms::busy, farm -> farm.setWind('e', 3));
        Twins.refuses(Check.ARGUMENT, Farms::busy, farm -> farm.outputWith('E', 31));
        Twins.refuses(Check.ARGUMENT, Farms::busy, farm -> farm.setGridLimit(1000));
        Twins.refuses(Check.ARGUMENT, Farms::busy, farm -> farm.placeBid(2, 51, 1));
        Twins.refuses(Check.ARGUMENT, Farms::busy, farm -> farm.placeBid(2, 50, 501));
        Twins.refuses(Check.INDEX, Farms::busy, farm -> farm.withdrawBid(24));
        Twins.refuses(Check.ARGUMENT, Farms::busy, farm -> farm.passHours(49));
        Twins.refuses(Check.ARGUMENT, Farms::busy, farm -> farm.incomeWithin(49));
        Twins.refuses(Check.INDEX, Farms::busy, farm -> farm.writeTurbine(4));
        Twins.refuses(Check.ARGUMENT, Farms::busy, farm -> farm.appendInput((char) 127));
        Twins.refuses(Check.STATE, Farms::busyWithoutInput, farm -> Farms.run(farm, "t3;v;f4"));
        Twins.refuses(Check.STATE, Farms::empty, WindFarmDispatcher::undo);
        Twins.refuses(Check.STATE, Farms::full, WindFarmDispatcher::restoreSnapshot);
        Twins.refuses(Check.ELEMENT, Farms::busy, WindFarmDispatcher::causeReason);
    }

    @Sentence("If several exceptions of a method apply, the one that is listed first is thrown.")
    static void termsFirstExceptionIsThrown() {
        Twins.refuses(Check.INDEX, Farms::busy, farm -> farm.addTurbine(5, 0, 0));
        Twins.refuses(Check.INDEX, Farms::full, farm -> farm.addTurbine(0, 6, 1));
        Twins.refuses(Check.INDEX, Farms::full, farm -> farm.addTurbine(-1, 0, 10));
        Twins.refuses(Check.ARGUMENT, Farms::full, farm -> farm.addTurbine(4, 5, 10));
        Twins.refuses(Check.ARGUMENT, Farms::busy, farm -> farm.addTurbine(0, 0, 0));
        Twins.refuses(Check.INDEX, Farms::busy, farm -> farm.sendCrew(4, 0));
        Twins.refuses(Check.ARGUMENT, Farms::busy, farm -> farm.sendCrew(0, 13));
        Twins.refuses(Check.ARGUMENT, () -> served(0, 1), farm -> farm.sendCrew(2, 0));
        Twins.refuses(Check.INDEX, Farms::busy, farm -> farm.curtail(4, 91));
        Twins.refuses(Check.ARGUMENT, Farms::busy, farm -> farm.curtail(2, 91));
        Twins.refuses(Check.ARGUMENT, Farms::busy, farm -> farm.curtail(3, -1));
        Twins.refuses(Check.INDEX, Farms::busy, farm -> farm.placeBid(24, 0, 0));
        Twins.refuses(Check.INDEX, Farms::busy, farm -> farm.placeBid(-1, 51, 1));
        Twins.refuses(Check.ARGUMENT, Farms::busy, farm -> farm.placeBid(1, 0, 1));
        Twins.refuses(Check.ARGUMENT, Farms::busy, farm -> farm.placeBid(1, 1, 501));
    }

    @Sentence("If several exceptions of a method apply, the one that is listed first is thrown.")
    static void termsFirstExceptionOfTheInputIsThrown() {
        WindFarmDispatcher full = Farms.empty();
        Farms.type(full, "v".repeat(60));
        Check.refuses(Check.ARGUMENT, () -> full.appendInput((char) 31));
        Check.refuses(Check.ARGUMENT, () -> Farms.run(Farms.busyWithoutInput(), "f9;"));
        Check.refuses(Check.ARGUMENT, () -> Farms.run(Farms.busyWithoutInput(), "f2;x"));
        Check.refuses(Check.STATE, () -> Farms.run(Farms.busyWithoutInput(), "f9;f2"));
        Check.refuses(Check.REJECTED, () -> Farms.run(Farms.busyWithoutInput(), "f2;f9"));
        Check.refuses(Check.STATE, () -> Farms.run(Farms.busyWithoutInput(), "c2:91"));
        Check.refuses(Check.STATE, () -> Farms.run(Farms.busyWithoutInput(), "s0:13"));
        Check.refuses(Check.STATE, () -> Farms.run(Farms.busyWithoutInput(), "b1:51*1"));
        Check.refuses(Check.STATE, () -> Farms.run(Farms.busyWithoutInput(), "a000"));
    }

    // ---- the length of an object's life

    @Sentence(LIFE)
    static void termsCall512IsAnswered() {
        WindFarmDispatcher farm = Farms.alone(9);
        for (int call = 3; call <= 511; call++) {
            farm.passHours(48);
        }
        Check.answers(509L * 48L * 90L, farm::energyMade);
    }

    @Sentence(LIFE)
    static void termsCall512MayBeAnyCall() {
        WindFarmDispatcher changed = Farms.empty();
        for (int call = 1; call <= 511; call++) {
            changed.setGridLimit(call);
        }
        Check.answers(7, changed::undo);
        WindFarmDispatcher typed = Farms.empty();
        for (int call = 1; call <= 511; call++) {
            int last = call;
            Check.outcome(() -> last % 7 == 0 ? typed.execute() : typed.appendInput(last % 2 == 0 ? ';' : 'd'));
        }
        Check.answers(0, typed::saveSnapshot);
        WindFarmDispatcher rejected = Farms.empty();
        for (int call = 1; call <= 511; call++) {
            Check.outcome(() -> rejected.withdrawBid(7));
        }
        Check.answers(WindFarmDispatcher.NO_BID, rejected::rejectionReason);
    }
}
