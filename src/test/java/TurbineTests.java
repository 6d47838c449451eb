/** Promises 1 to 18: turbines. */
final class TurbineTests {
    // ---- a new object

    @Sentence("Creates a farm without turbines.")
    static void promise01newFarmHasNoTurbines() {
        WindFarmDispatcher farm = new WindFarmDispatcher();
        Check.answers(0, farm::turbineCount);
        Check.refuses(Check.INDEX, () -> farm.rowOf(0));
        Check.refuses(Check.ELEMENT, () -> farm.turbineByOutput(0));
        for (int cell = 0; cell < 30; cell++) {
            int at = cell;
            Check.refuses(Check.ELEMENT, () -> farm.turbineAt(at / 6, at % 6));
        }
        farm.addTurbine(0, 0, 1);
        Check.answers(0, new WindFarmDispatcher()::turbineCount);
    }

    @Sentence("Creates a farm without turbines.")
    static void promise01newFarmIsAtTheBeginning() {
        WindFarmDispatcher farm = new WindFarmDispatcher();
        Check.answers("N0 grid 999 time 0 crews 2 turbines 0 total 0 accounts 0 0 0 bid in "
                + "throws java.util.NoSuchElementException; lost 0 spilled 0", () -> Farms.dataOf(farm));
        Check.answers("", () -> Farms.outputOf(farm));
        Check.refuses(Check.ELEMENT, farm::rejectionReason);
        Check.refuses(Check.ELEMENT, farm::rejectionDetail);
        Check.refuses(Check.ELEMENT, farm::causeReason);
        Check.refuses(Check.ELEMENT, farm::syntaxErrorOffset);
        Check.refuses(Check.STATE, farm::undo);
        Check.refuses(Check.STATE, farm::restoreSnapshot);
        Check.answers(1, () -> farm.appendInput('d'));
    }

    // ---- addTurbine

    @Sentence("Adds a running turbine.")
    static void promise02addedTurbineRuns() {
        WindFarmDispatcher farm = Farms.empty();
        farm.setWind('N', 12);
        farm.addTurbine(3, 4, 7);
        Check.answers("running", () -> Farms.stateOf(farm, 0));
        Check.refuses(Check.ELEMENT, () -> farm.limitOf(0));
        Check.answers(3, () -> farm.rowOf(0));
        Check.answers(4, () -> farm.columnOf(0));
        Check.answers(70, farm::totalOutput);
        farm.addTurbine(4, 4, 5);
        Check.answers(105, farm::totalOutput);
    }

    /** The turbine takes the number of one that was undone, but nothing else of it. */
    @Sentence("Adds a running turbine.")
    static void promise02addedTurbineIsNew() {
        WindFarmDispatcher farm = Farms.alone(9);
        farm.addTurbine(0, 0, 9);
        farm.curtail(1, 5);
        farm.fail(1);
        farm.sendCrew(1, 9);
        for (int change = 0; change < 4; change++) {
            farm.undo();
        }
        Check.answers(1, () -> farm.addTurbine(4, 4, 4));
        Check.answers("running", () -> Farms.stateOf(farm, 1));
        Check.refuses(Check.ELEMENT, () -> farm.limitOf(1));
        Check.refuses(Check.ELEMENT, () -> farm.turbineAt(0, 0));
        Check.answers(40, () -> farm.outputOf(1));
    }

    @Sentence("- `rated`: the rated power in megawatts, 1 to 9")
    static void promise02ratedPowerIsOneToNine() {
        WindFarmDispatcher farm = Farms.empty();
        for (int rated = 1; rated <= 9; rated++) {
            int turbine = rated - 1;
            Check.answers(turbine, () -> farm.addTurbine(turbine % 5, turbine / 5, turbine + 1));
            Check.answers(rated, () -> farm.ratedPower(turbine));
        }
    }

    @Sentence("Returns the index of the turbine.")
    static void promise02addTurbineReturnsTheIndex() {
        Twins.changes(0, Farms::empty, farm -> farm.addTurbine(4, 5, 9));
        Twins.changes(1, () -> Farms.alone(1), farm -> farm.addTurbine(0, 0, 9));
        Twins.changes(4, Farms::busy, farm -> farm.addTurbine(0, 5, 1));
    }

    @Sentence("Throws `IndexOutOfBoundsException` if there is no such cell")
    static void promise02addTurbineNeedsACell() {
        Twins.needCell((farm, row, column) -> farm.addTurbine(row, column, 1));
    }

    @Sentence("Throws `IllegalArgumentException` if rated is out of range")
    static void promise02addTurbineNeedsARatedPower() {
        Twins.needRange(1, 9, Farms::busy, (farm, rated) -> farm.addTurbine(3, 3, rated));
    }

    @Sentence("Throws `UnsupportedOperationException` if the call is rejected with the reason TURBINE_LIMIT or CELL_TAKEN")
    static void promise02addTurbineIsRejected() {
        Twins.rejects(WindFarmDispatcher.TURBINE_LIMIT, 12, Farms::full, farm -> farm.addTurbine(4, 5, 9));
        Twins.rejects(WindFarmDispatcher.CELL_TAKEN, 0, Farms::busy, farm -> farm.addTurbine(0, 0, 1));
        Twins.rejects(WindFarmDispatcher.CELL_TAKEN, 3, Farms::busy, farm -> farm.addTurbine(4, 5, 9));
    }

    // ---- fail

    @Sentence("Lets a turbine fail.")
    static void promise03turbineFails() {
        WindFarmDispatcher farm = Farms.busy();
        farm.fail(0);
        Check.answers("failed", () -> Farms.stateOf(farm, 0));
        Check.answers("running", () -> Farms.stateOf(farm, 1));
        Check.answers(0, () -> farm.outputOf(0));
    }

    @Sentence("Its curtailment ends.")
    static void promise03curtailmentEnds() {
        WindFarmDispatcher farm = Farms.busy();
        farm.fail(1);
        Check.refuses(Check.ELEMENT, () -> farm.limitOf(1));
        farm.sendCrew(1, 1);
        farm.passHours(1);
        Check.refuses(Check.ELEMENT, () -> farm.limitOf(1));
        Check.answers(35, () -> farm.outputOf(1));
        Check.answers(0, farm::releaseAll);
    }

    @Sentence("Returns the number of turbines that are failed or in service after the call.")
    static void promise03failReturnsHowManyRest() {
        Twins.changes(1, Farms::column, farm -> farm.fail(3));
        Twins.changes(3, Farms::busy, farm -> farm.fail(0));
        WindFarmDispatcher farm = Farms.full();
        for (int turbine = 0; turbine < 12; turbine++) {
            int next = turbine;
            Check.answers(turbine + 1, () -> farm.fail(next));
        }
    }

    @Sentence("Throws `IndexOutOfBoundsException` if there is no such turbine")
    static void promise03failNeedsATurbine() {
        Twins.needTurbine(WindFarmDispatcher::fail);
    }

    @Sentence("Throws `UnsupportedOperationException` if the call is rejected with the reason NOT_RUNNING")
    static void promise03failIsRejected() {
        Twins.rejects(WindFarmDispatcher.NOT_RUNNING, 0, Farms::busy, farm -> farm.fail(2));
        Twins.rejects(WindFarmDispatcher.NOT_RUNNING, 5, Farms::busy, farm -> farm.fail(3));
    }

    // ---- sendCrew

    @Sentence("Sends a crew to a failed turbine, which is in service then.")
    static void promise04turbineIsInService() {
        WindFarmDispatcher farm = Farms.busy();
        farm.sendCrew(2, 9);
        Check.answers("in service", () -> Farms.stateOf(farm, 2));
        Check.answers("in service", () -> Farms.stateOf(farm, 3));
        Check.answers(9, () -> farm.serviceHoursLeft(2));
        Check.answers(5, () -> farm.serviceHoursLeft(3));
    }

    @Sentence("- `hours`: the number of hours that the service takes, 1 to 12")
    static void promise04serviceTakesOneToTwelveHours() {
        for (int hours = 1; hours <= 12; hours++) {
            int due = hours;
            WindFarmDispatcher farm = Farms.busy();
            Check.answers(0, () -> farm.sendCrew(2, due));
            Check.answers(due, () -> farm.serviceHoursLeft(2));
            if (hours > 1) {
                farm.passHours(hours - 1);
            }
            Check.answers("in service", () -> Farms.stateOf(farm, 2));
            farm.passHours(1);
            Check.answers("running", () -> Farms.stateOf(farm, 2));
        }
    }

    @Sentence("Returns the number of free crews after the call.")
    static void promise04sendCrewReturnsTheFreeCrews() {
        WindFarmDispatcher farm = Farms.column();
        farm.fail(1);
        farm.fail(2);
        Check.answers(1, () -> farm.sendCrew(2, 12));
        Check.answers(0, () -> farm.sendCrew(1, 12));
        farm.recallCrew(2);
        Check.answers(0, () -> farm.sendCrew(2, 12));
        Twins.changes(0, Farms::busy, busy -> busy.sendCrew(2, 12));
    }

    @Sentence("Throws `IndexOutOfBoundsException` if there is no such turbine")
    static void promise04sendCrewNeedsATurbine() {
        Twins.needTurbine((farm, turbine) -> farm.sendCrew(turbine, 1));
    }

    @Sentence("Throws `IllegalArgumentException` if hours is out of range")
    static void promise04sendCrewNeedsHours() {
        Twins.needRange(1, 12, Farms::busy, (farm, hours) -> farm.sendCrew(2, hours));
    }

    @Sentence("Throws `UnsupportedOperationException` if the call is rejected with the reason NOT_FAILED or NO_CREW")
    static void promise04sendCrewIsRejected() {
        Twins.rejects(WindFarmDispatcher.NOT_FAILED, 90, Farms::busy, farm -> farm.sendCrew(0, 1));
        Twins.rejects(WindFarmDispatcher.NOT_FAILED, 0, Farms::busy, farm -> farm.sendCrew(3, 1));
        Twins.Maker bothAtWork = () -> {
            WindFarmDispatcher farm = Farms.busy();
            farm.sendCrew(2, 1);
            farm.fail(0);
            return farm;
        };
        Twins.rejects(WindFarmDispatcher.NO_CREW, 2, bothAtWork, farm -> farm.sendCrew(0, 12));
    }

    // ---- recallCrew

    @Sentence("Recalls the crew from a turbine in service, which is failed again.")
    static void promise05turbineIsFailedAgain() {
        WindFarmDispatcher farm = Farms.busy();
        farm.recallCrew(3);
        Check.answers("failed", () -> Farms.stateOf(farm, 3));
        Check.answers(2, farm::freeCrews);
        Check.refuses(Check.ELEMENT, () -> farm.serviceHoursLeft(3));
        farm.passHours(48);
        Check.answers("failed", () -> Farms.stateOf(farm, 3));
    }

    @Sentence("Returns the number of hours that the service would still have taken.")
    static void promise05recallCrewReturnsTheHours() {
        Twins.changes(5, Farms::busy, farm -> farm.recallCrew(3));
        int[][] passedAndLeft = {{0, 12}, {1, 11}, {11, 1}};
        for (int[] row : passedAndLeft) {
            WindFarmDispatcher farm = Farms.busy();
            farm.sendCrew(2, 12);
            for (int hour = 0; hour < row[0]; hour++) {
                farm.passHours(1);
            }
            Check.answers(row[1], () -> farm.recallCrew(2));
        }
    }

    @Sentence("Throws `IndexOutOfBoundsException` if there is no such turbine")
    static void promise05recallCrewNeedsATurbine() {
        Twins.needTurbine(WindFarmDispatcher::recallCrew);
    }

    @Sentence("Throws `UnsupportedOperationException` if the call is rejected with the reason NOT_IN_SERVICE")
    static void promise05recallCrewIsRejected() {
        Twins.rejects(WindFarmDispatcher.NOT_IN_SERVICE, 90, Farms::busy, farm -> farm.recallCrew(0));
        Twins.rejects(WindFarmDispatcher.NOT_IN_SERVICE, 20, Farms::busy, farm -> farm.recallCrew(1));
        Twins.rejects(WindFarmDispatcher.NOT_IN_SERVICE, 0, Farms::busy, farm -> farm.recallCrew(2));
        Twins.Maker ready = () -> {
            WindFarmDispatcher farm = Farms.busy();
            farm.passHours(5);
            return farm;
        };
        Twins.rejects(WindFarmDispatcher.NOT_IN_SERVICE, 30, ready, farm -> farm.recallCrew(3));
    }

    // ---- curtail

    @Sentence("Curtails a running turbine: its output is not greater than a limit.")
    static void promise06outputIsNotGreaterThanTheLimit() {
        for (int limit = 0; limit <= 90; limit++) {
            int due = limit;
            WindFarmDispatcher farm = Farms.column();
            Check.answers(Math.min(limit, 35), () -> farm.curtail(1, due));
            Check.answers(Math.min(limit, 35), () -> farm.outputOf(1));
            Check.answers(limit, () -> farm.limitOf(1));
            farm.setWind('W', 12);
            Check.answers(Math.min(limit, 50), () -> farm.outputOf(1));
        }
    }

    @Sentence("An earlier limit is replaced.")
    static void promise06earlierLimitIsReplaced() {
        WindFarmDispatcher farm = Farms.column();
        for (int limit : new int[] {40, 90, 0, 39, 39, 41}) {
            Check.answers(limit, () -> farm.curtail(0, limit));
            Check.answers(limit, () -> farm.limitOf(0));
        }
    }

    @Sentence("- `limit`: the limit in tenths of a megawatt, 0 to 90")
    static void promise06limitIsZeroToNinety() {
        Twins.changes(0, Farms::busy, farm -> farm.curtail(0, 0));
        Twins.changes(1, Farms::busy, farm -> farm.curtail(0, 1));
        Twins.changes(89, Farms::busy, farm -> farm.curtail(0, 89));
        Twins.changes(90, Farms::busy, farm -> farm.curtail(0, 90));
    }

    @Sentence("Returns the output of the turbine after the call.")
    static void promise06curtailReturnsTheOutput() {
        Twins.changes(34, Farms::column, farm -> farm.curtail(1, 34));
        Twins.changes(35, Farms::column, farm -> farm.curtail(1, 35));
        Twins.changes(35, Farms::column, farm -> farm.curtail(1, 36));
        Twins.changes(0, Farms::full, farm -> farm.curtail(11, 90));
    }

    @Sentence("Throws `IndexOutOfBoundsException` if there is no such turbine")
    static void promise06curtailNeedsATurbine() {
        Twins.needTurbine((farm, turbine) -> farm.curtail(turbine, 0));
    }

    @Sentence("Throws `IllegalArgumentException` if limit is out of range")
    static void promise06curtailNeedsALimit() {
        Twins.needRange(0, 90, Farms::busy, (farm, limit) -> farm.curtail(0, limit));
    }

    @Sentence("Throws `UnsupportedOperationException` if the call is rejected with the reason NOT_RUNNING")
    static void promise06curtailIsRejected() {
        Twins.rejects(WindFarmDispatcher.NOT_RUNNING, 0, Farms::busy, farm -> farm.curtail(2, 0));
        Twins.rejects(WindFarmDispatcher.NOT_RUNNING, 5, Farms::busy, farm -> farm.curtail(3, 90));
    }

    // ---- release

    @Sentence("Ends the curtailment of a turbine.")
    static void promise07curtailmentEnds() {
        WindFarmDispatcher farm = Farms.busy();
        farm.curtail(0, 0);
        farm.release(1);
        Check.refuses(Check.ELEMENT, () -> farm.limitOf(1));
        Check.answers(0, () -> farm.limitOf(0));
        farm.release(0);
        Check.refuses(Check.ELEMENT, () -> farm.limitOf(0));
    }

    @Sentence("Returns the output of the turbine after the call.")
    static void promise07releaseReturnsTheOutput() {
        Twins.changes(35, Farms::busy, farm -> farm.release(1));
        WindFarmDispatcher farm = Farms.column();
        farm.curtail(0, 0);
        Check.answers(90, () -> farm.release(0));
        farm.curtail(0, 90);
        Check.answers(90, () -> farm.release(0));
        farm.curtail(0, 90);
        farm.setWind('N', 0);
        Check.answers(0, () -> farm.release(0));
    }

    @Sentence("Throws `IndexOutOfBoundsException` if there is no such turbine")
    static void promise07releaseNeedsATurbine() {
        Twins.needTurbine(WindFarmDispatcher::release);
    }

    @Sentence("Throws `UnsupportedOperationException` if the call is rejected with the reason NOT_RUNNING or NOT_CURTAILED")
    static void promise07releaseIsRejected() {
        Twins.rejects(WindFarmDispatcher.NOT_RUNNING, 0, Farms::busy, farm -> farm.release(2));
        Twins.rejects(WindFarmDispatcher.NOT_RUNNING, 5, Farms::busy, farm -> farm.release(3));
        Twins.rejects(WindFarmDispatcher.NOT_CURTAILED, 90, Farms::busy, farm -> farm.release(0));
        Twins.Maker released = () -> {
            WindFarmDispatcher farm = Farms.busy();
            farm.release(1);
            return farm;
        };
        Twins.rejects(WindFarmDispatcher.NOT_CURTAILED, 35, released, farm -> farm.release(1));
    }

    // ---- where the turbines stand

    @Sentence("Returns the number of turbines.")
    static void promise08turbineCount() {
        WindFarmDispatcher farm = Farms.empty();
        for (int count = 0; count < 12; count++) {
            Check.answers(count, farm::turbineCount);
            farm.addTurbine(count % 5, count / 5, 1);
        }
        Check.answers(12, farm::turbineCount);
        Check.outcome(() -> farm.addTurbine(4, 5, 1));
        Check.answers(12, farm::turbineCount);
        Twins.reads(4, Farms::busy, WindFarmDispatcher::turbineCount);
    }

    @Sentence({"Returns the turbine in a cell.", "Returns the index of the turbine."})
    static void promise09turbineAt() {
        Twins.reads(0, Farms::busy, farm -> farm.turbineAt(0, 0));
        Twins.reads(1, Farms::busy, farm -> farm.turbineAt(1, 0));
        Twins.reads(2, Farms::busy, farm -> farm.turbineAt(2, 0));
        Twins.reads(3, Farms::busy, farm -> farm.turbineAt(4, 5));
        Twins.reads(11, Farms::full, farm -> farm.turbineAt(3, 5));
    }

    @Sentence("Throws `IndexOutOfBoundsException` if there is no such cell")
    static void promise09turbineAtNeedsACell() {
        Twins.needCell(WindFarmDispatcher::turbineAt);
    }

    @Sentence("Throws `NoSuchElementException` if the cell is empty")
    static void promise09turbineAtNeedsATurbine() {
        Twins.refuses(Check.ELEMENT, Farms::empty, farm -> farm.turbineAt(0, 0));
        Twins.refuses(Check.ELEMENT, Farms::empty, farm -> farm.turbineAt(4, 5));
        Twins.refuses(Check.ELEMENT, Farms::busy, farm -> farm.turbineAt(0, 1));
        Twins.refuses(Check.ELEMENT, Farms::busy, farm -> farm.turbineAt(3, 0));
        Twins.refuses(Check.ELEMENT, Farms::busy, farm -> farm.turbineAt(0, 5));
    }

    @Sentence({"Returns the row of a turbine.", "Returns the row."})
    static void promise10rowOf() {
        Twins.reads(0, Farms::busy, farm -> farm.rowOf(0));
        Twins.reads(2, Farms::busy, farm -> farm.rowOf(2));
        Twins.reads(4, Farms::busy, farm -> farm.rowOf(3));
        Twins.reads(3, Farms::full, farm -> farm.rowOf(11));
    }

    @Sentence("Throws `IndexOutOfBoundsException` if there is no such turbine")
    static void promise10rowOfNeedsATurbine() {
        Twins.needTurbine(WindFarmDispatcher::rowOf);
    }

    @Sentence({"Returns the column of a turbine.", "Returns the column."})
    static void promise11columnOf() {
        Twins.reads(0, Farms::busy, farm -> farm.columnOf(1));
        Twins.reads(5, Farms::busy, farm -> farm.columnOf(3));
        Twins.reads(4, Farms::full, farm -> farm.columnOf(10));
    }

    @Sentence("Throws `IndexOutOfBoundsException` if there is no such turbine")
    static void promise11columnOfNeedsATurbine() {
        Twins.needTurbine(WindFarmDispatcher::columnOf);
    }

    @Sentence({"Returns the rated power of a turbine.", "Returns the rated power in megawatts."})
    static void promise12ratedPower() {
        Twins.reads(9, Farms::busy, farm -> farm.ratedPower(0));
        Twins.reads(5, Farms::busy, farm -> farm.ratedPower(2));
        Twins.reads(3, Farms::busy, farm -> farm.ratedPower(3));
    }

    @Sentence("Throws `IndexOutOfBoundsException` if there is no such turbine")
    static void promise12ratedPowerNeedsATurbine() {
        Twins.needTurbine(WindFarmDispatcher::ratedPower);
    }

    // ---- their states

    @Sentence({"Tells whether a turbine is running, curtailed or not.", "Returns whether it is running."})
    static void promise13isRunning() {
        Twins.reads(true, Farms::busy, farm -> farm.isRunning(0));
        Twins.reads(true, Farms::busy, farm -> farm.isRunning(1));
        Twins.reads(false, Farms::busy, farm -> farm.isRunning(2));
        Twins.reads(false, Farms::busy, farm -> farm.isRunning(3));
    }

    @Sentence("Throws `IndexOutOfBoundsException` if there is no such turbine")
    static void promise13isRunningNeedsATurbine() {
        Twins.needTurbine(WindFarmDispatcher::isRunning);
    }

    @Sentence({"Tells whether a turbine is failed, and no crew is at work on it.", "Returns whether it is failed."})
    static void promise14isFailed() {
        Twins.reads(false, Farms::busy, farm -> farm.isFailed(0));
        Twins.reads(false, Farms::busy, farm -> farm.isFailed(1));
        Twins.reads(true, Farms::busy, farm -> farm.isFailed(2));
        Twins.reads(false, Farms::busy, farm -> farm.isFailed(3));
    }

    @Sentence("Throws `IndexOutOfBoundsException` if there is no such turbine")
    static void promise14isFailedNeedsATurbine() {
        Twins.needTurbine(WindFarmDispatcher::isFailed);
    }

    @Sentence({"Tells whether a turbine is in service.", "Returns whether a crew is at work on it."})
    static void promise15isInService() {
        Twins.reads(false, Farms::busy, farm -> farm.isInService(0));
        Twins.reads(false, Farms::busy, farm -> farm.isInService(1));
        Twins.reads(false, Farms::busy, farm -> farm.isInService(2));
        Twins.reads(true, Farms::busy, farm -> farm.isInService(3));
    }

    @Sentence("Throws `IndexOutOfBoundsException` if there is no such turbine")
    static void promise15isInServiceNeedsATurbine() {
        Twins.needTurbine(WindFarmDispatcher::isInService);
    }

    @Sentence({"Returns the limit of a curtailed turbine.", "Returns the limit in tenths of a megawatt."})
    static void promise16limitOf() {
        Twins.reads(20, Farms::busy, farm -> farm.limitOf(1));
        WindFarmDispatcher farm = Farms.column();
        for (int limit : new int[] {0, 1, 35, 90}) {
            farm.curtail(1, limit);
            Check.answers(limit, () -> farm.limitOf(1));
        }
    }

    @Sentence("Throws `IndexOutOfBoundsException` if there is no such turbine")
    static void promise16limitOfNeedsATurbine() {
        Twins.needTurbine(WindFarmDispatcher::limitOf);
    }

    @Sentence("Throws `NoSuchElementException` if the turbine is not curtailed")
    static void promise16limitOfNeedsACurtailment() {
        Twins.refuses(Check.ELEMENT, Farms::busy, farm -> farm.limitOf(0));
        Twins.refuses(Check.ELEMENT, Farms::busy, farm -> farm.limitOf(2));
        Twins.refuses(Check.ELEMENT, Farms::busy, farm -> farm.limitOf(3));
        WindFarmDispatcher farm = Farms.busy();
        farm.release(1);
        Check.refuses(Check.ELEMENT, () -> farm.limitOf(1));
    }

    @Sentence({"Returns how many hours the service of a turbine still takes.", "Returns the number of hours."})
    static void promise17serviceHoursLeft() {
        Twins.reads(5, Farms::busy, farm -> farm.serviceHoursLeft(3));
        WindFarmDispatcher farm = Farms.busy();
        farm.sendCrew(2, 12);
        for (int left = 12; left >= 1; left--) {
            int due = left;
            Check.answers(due, () -> farm.serviceHoursLeft(2));
            farm.passHours(1);
        }
        Check.refuses(Check.ELEMENT, () -> farm.serviceHoursLeft(2));
    }

    @Sentence("Throws `IndexOutOfBoundsException` if there is no such turbine")
    static void promise17serviceHoursLeftNeedsATurbine() {
        Twins.needTurbine(WindFarmDispatcher::serviceHoursLeft);
    }

    @Sentence("Throws `NoSuchElementException` if the turbine is not in service")
    static void promise17serviceHoursLeftNeedsAService() {
        Twins.refuses(Check.ELEMENT, Farms::busy, farm -> farm.serviceHoursLeft(0));
        Twins.refuses(Check.ELEMENT, Farms::busy, farm -> farm.serviceHoursLeft(1));
        Twins.refuses(Check.ELEMENT, Farms::busy, farm -> farm.serviceHoursLeft(2));
        WindFarmDispatcher farm = Farms.busy();
        farm.passHours(5);
        Check.refuses(Check.ELEMENT, () -> farm.serviceHoursLeft(3));
    }

    @Sentence("Returns the number of free crews.")
    static void promise18freeCrews() {
        Twins.reads(1, Farms::busy, WindFarmDispatcher::freeCrews);
        WindFarmDispatcher farm = Farms.busy();
        farm.recallCrew(3);
        Check.answers(2, farm::freeCrews);
        farm.sendCrew(3, 1);
        farm.passHours(1);
        Check.answers(2, farm::freeCrews);
    }

    @Sentence("Returns the number of crews, 0 to 2.")
    static void promise18freeCrewsAreZeroToTwo() {
        WindFarmDispatcher farm = Farms.full();
        for (int turbine = 0; turbine < 4; turbine++) {
            farm.fail(turbine);
        }
        Check.answers(2, farm::freeCrews);
        farm.sendCrew(0, 2);
        farm.sendCrew(1, 1);
        Check.answers(0, farm::freeCrews);
        Check.outcome(() -> farm.sendCrew(2, 1));
        Check.answers(0, farm::freeCrews);
        farm.passHours(1);
        Check.answers(1, farm::freeCrews);
        farm.passHours(1);
        Check.answers(2, farm::freeCrews);
    }
}
