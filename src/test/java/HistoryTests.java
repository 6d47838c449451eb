/** Promises 58 to 63: rejections and history. */
final class HistoryTests {
    // ---- rejections

    @Sentence("Returns the reason of the latest rejection.")
    static void promise58rejectionReason() {
        WindFarmDispatcher farm = Farms.busy();
        Check.answers(WindFarmDispatcher.NO_BID, farm::rejectionReason);
        Check.outcome(() -> farm.fail(2));
        Check.answers(WindFarmDispatcher.NOT_RUNNING, farm::rejectionReason);
        Check.outcome(() -> farm.release(0));
        Check.answers(WindFarmDispatcher.NOT_CURTAILED, farm::rejectionReason);
        // what is not rejected leaves it
        Check.outcome(() -> farm.fail(9));
        Check.outcome(() -> farm.passHours(0));
        farm.release(1);
        Check.outcome(farm::execute);
        Check.answers(WindFarmDispatcher.NOT_CURTAILED, farm::rejectionReason);
        Twins.reads(WindFarmDispatcher.NO_BID, Farms::busy, WindFarmDispatcher::rejectionReason);
    }

    @Sentence("Returns the reason, one of the constants.")
    static void promise58rejectionReasonOfACommand() {
        WindFarmDispatcher farm = Farms.busyWithoutInput();
        Check.outcome(() -> Farms.run(farm, "d;f2"));
        Check.answers(WindFarmDispatcher.COMMAND_REJECTED, farm::rejectionReason);
    }

    @Sentence("Throws `NoSuchElementException` if no call was rejected")
    static void promise58rejectionReasonNeedsARejection() {
        Twins.refuses(Check.ELEMENT, Farms::empty, WindFarmDispatcher::rejectionReason);
        Twins.refuses(Check.ELEMENT, HistoryTests::thrownButNotRejected, WindFarmDispatcher::rejectionReason);
    }

    @Sentence("Returns the detail of the latest rejection.")
    static void promise59rejectionDetail() {
        Twins.reads(2, Farms::busy, WindFarmDispatcher::rejectionDetail);
        WindFarmDispatcher farm = Farms.busy();
        Check.outcome(() -> farm.fail(3));
        Check.answers(5, farm::rejectionDetail);
        Check.outcome(() -> farm.release(0));
        Check.answers(90, farm::rejectionDetail);
        Check.outcome(() -> farm.release(9));
        Check.answers(90, farm::rejectionDetail);
    }

    @Sentence("Returns the detail.")
    static void promise59rejectionDetailIsThatOfTheCall() {
        WindFarmDispatcher farm = Farms.busy();
        Check.outcome(() -> farm.release(0));
        farm.setWind('N', 0);
        Check.answers(90, farm::rejectionDetail);
        farm.undo();
        farm.restoreSnapshot();
        Check.answers(90, farm::rejectionDetail);
        Check.outcome(() -> Farms.run(farm, ";d;d;d;f2"));
        Check.answers(4, farm::rejectionDetail);
    }

    @Sentence("Throws `NoSuchElementException` if no call was rejected")
    static void promise59rejectionDetailNeedsARejection() {
        Twins.refuses(Check.ELEMENT, Farms::empty, WindFarmDispatcher::rejectionDetail);
        Twins.refuses(Check.ELEMENT, HistoryTests::thrownButNotRejected, WindFarmDispatcher::rejectionDetail);
    }

    @Sentence("Returns the reason of the command that caused the latest rejection.")
    static void promise60causeReason() {
        Twins.Maker rejected = () -> {
            WindFarmDispatcher farm = Farms.busyWithoutInput();
            Check.outcome(() -> Farms.run(farm, "d;a009"));
            return farm;
        };
        Twins.reads(WindFarmDispatcher.CELL_TAKEN, rejected, WindFarmDispatcher::causeReason);
        WindFarmDispatcher farm = rejected.make();
        Check.outcome(() -> Farms.run(farm, "q2"));
        Check.answers(WindFarmDispatcher.NO_BID, farm::causeReason);
    }

    @Sentence("Returns the reason, one of the constants.")
    static void promise60causeReasonIsNotThatOfTheCall() {
        WindFarmDispatcher farm = Farms.busyWithoutInput();
        Check.outcome(() -> Farms.run(farm, "f2"));
        Check.answers(WindFarmDispatcher.COMMAND_REJECTED, farm::rejectionReason);
        Check.answers(0, farm::rejectionDetail);
        Check.answers(WindFarmDispatcher.NOT_RUNNING, farm::causeReason);
        // neither a syntax error nor a wrong number is a rejection
        Check.outcome(() -> Farms.run(farm, "f9"));
        Check.outcome(() -> Farms.run(farm, "x"));
        farm.undo();
        farm.restoreSnapshot();
        Check.answers(WindFarmDispatcher.NOT_RUNNING, farm::causeReason);
    }

    @Sentence("Throws `NoSuchElementException` if no call was rejected, or the latest rejection has another reason than "
            + "COMMAND_REJECTED")
    static void promise60causeReasonNeedsARejectedCommand() {
        Twins.refuses(Check.ELEMENT, Farms::empty, WindFarmDispatcher::causeReason);
        Twins.refuses(Check.ELEMENT, HistoryTests::thrownButNotRejected, WindFarmDispatcher::causeReason);
        Twins.refuses(Check.ELEMENT, Farms::busy, WindFarmDispatcher::causeReason);
        Twins.Maker rejectedAgain = () -> {
            WindFarmDispatcher farm = Farms.busyWithoutInput();
            Check.outcome(() -> Farms.run(farm, "f2"));
            Check.outcome(() -> farm.fail(2));
            return farm;
        };
        Twins.refuses(Check.ELEMENT, rejectedAgain, WindFarmDispatcher::causeReason);
    }

    /** Calls that throw for another reason than a rejection. */
    private static WindFarmDispatcher thrownButNotRejected() {
        WindFarmDispatcher farm = Farms.column();
        Check.outcome(() -> farm.fail(9));
        Check.outcome(() -> farm.passHours(0));
        Check.outcome(() -> Farms.run(farm, "f9"));
        Check.outcome(() -> Farms.run(farm, "f0;"));
        Check.outcome(() -> farm.limitOf(0));
        Check.outcome(farm::restoreSnapshot);
        return farm;
    }

    // ---- undo

    @Sentence("Undoes the latest change that has not been undone.")
    static void promise61undo() {
        WindFarmDispatcher farm = Farms.column();
        String[] states = new String[9];
        Twins.Use[] changes = {
            changed -> changed.addTurbine(2, 2, 2), changed -> changed.fail(4), changed -> changed.sendCrew(4, 4),
            changed -> changed.placeBid(0, 2, 400), changed -> changed.passHours(5), changed -> changed.withdrawBid(0),
            changed -> changed.setWind('E', 8), changed -> Farms.run(changed, "g50;d;c0:5;f2;t9"),
        };
        for (int index = 0; index < changes.length; index++) {
            states[index] = Farms.sketchOf(farm);
            changes[index].on(farm);
            // these are no changes
            Check.outcome(() -> farm.fail(9));
            Check.outcome(() -> farm.setGridLimit(-1));
            Check.outcome(() -> Farms.run(farm, "g1;x"));
            Check.outcome(() -> Farms.run(farm, "g1;f9"));
        }
        for (int left = 7; left >= 0; left--) {
            farm.undo();
            Check.answers(states[left], () -> Farms.sketchOf(farm));
        }
    }

    /** A change after an undo is the latest one; what was undone does not come back. */
    @Sentence("Undoes the latest change that has not been undone.")
    static void promise61undoAfterAnUndo() {
        WindFarmDispatcher farm = Farms.empty();
        farm.setGridLimit(1);
        farm.setGridLimit(2);
        farm.undo();
        Check.answers(1, farm::gridLimit);
        farm.setGridLimit(3);
        farm.undo();
        Check.answers(1, farm::gridLimit);
        farm.undo();
        Check.answers(999, farm::gridLimit);
    }

    @Sentence("Returns the number of changes that can still be undone.")
    static void promise61undoReturnsHowManyCanStillBeUndone() {
        for (int changes = 1; changes <= 10; changes++) {
            WindFarmDispatcher farm = Farms.empty();
            for (int change = 0; change < changes; change++) {
                farm.dispatch();
            }
            for (int left = Math.min(changes, 8) - 1; left >= 0; left--) {
                Check.answers(left, farm::undo);
            }
        }
        Check.answers(2, Farms.busy()::undo);
    }

    @Sentence("Throws `IllegalStateException` if there is none")
    static void promise61undoNeedsAChange() {
        Twins.refuses(Check.STATE, Farms::empty, WindFarmDispatcher::undo);
        Twins.Maker undone = () -> {
            WindFarmDispatcher farm = Farms.busy();
            farm.undo();
            farm.undo();
            farm.undo();
            return farm;
        };
        Twins.refuses(Check.STATE, undone, WindFarmDispatcher::undo);
        Twins.Maker eightUndone = () -> {
            WindFarmDispatcher farm = Farms.full();
            for (int change = 0; change < 8; change++) {
                farm.undo();
            }
            return farm;
        };
        Check.answers(4, () -> eightUndone.make().turbineCount());
        Twins.refuses(Check.STATE, eightUndone, WindFarmDispatcher::undo);
    }

    // ---- the snapshot

    @Sentence("Saves a snapshot of the data, in place of an earlier snapshot.")
    static void promise62saveSnapshot() {
        WindFarmDispatcher farm = Farms.busy();
        farm.saveSnapshot();
        farm.addTurbine(2, 2, 2);
        String second = Farms.dataOf(farm);
        farm.saveSnapshot();
        farm.fail(4);
        farm.passHours(3);
        farm.restoreSnapshot();
        Check.answers(second, () -> Farms.dataOf(farm));
    }

    @Sentence("Saves a snapshot of the data, in place of an earlier snapshot.")
    static void promise62saveSnapshotIsNoChange() {
        WindFarmDispatcher farm = Farms.busy();
        farm.saveSnapshot();
        Check.answers(Farms.dataOf(Farms.busy()), () -> Farms.dataOf(farm));
        Check.answers(2, farm::undo);
        // the snapshot stays as it was saved
        Check.answers(4, farm::restoreSnapshot);
        Check.answers(Farms.dataOf(Farms.busy()), () -> Farms.dataOf(farm));
    }

    @Sentence("Returns the number of turbines.")
    static void promise62saveSnapshotReturnsTheNumberOfTurbines() {
        Check.answers(0, Farms.empty()::saveSnapshot);
        Check.answers(1, Farms.alone(1)::saveSnapshot);
        Check.answers(4, Farms.busy()::saveSnapshot);
        Check.answers(12, Farms.full()::saveSnapshot);
    }

    @Sentence("Restores the snapshot, which is kept.")
    static void promise63restoreSnapshot() {
        WindFarmDispatcher farm = Farms.busyWithoutInput();
        farm.saveSnapshot();
        String saved = Farms.dataOf(farm);
        for (int time = 0; time < 3; time++) {
            Farms.run(farm, "a441;wE7;t20;v;g6;f0;q20");
            Check.isTrue("much is different", !Farms.dataOf(farm).equals(saved));
            Check.answers(4, farm::restoreSnapshot);
            Check.answers(saved, () -> Farms.dataOf(farm));
        }
    }

    @Sentence("No change can be undone after the call.")
    static void promise63noChangeCanBeUndone() {
        WindFarmDispatcher farm = Farms.busy();
        Check.answers(4, farm::restoreSnapshot);
        Check.refuses(Check.STATE, farm::undo);
        farm.setGridLimit(5);
        Check.answers(0, farm::undo);
        Check.refuses(Check.STATE, farm::undo);
        farm.restoreSnapshot();
        Check.refuses(Check.STATE, farm::undo);
        WindFarmDispatcher full = Farms.full();
        full.saveSnapshot();
        full.restoreSnapshot();
        Check.refuses(Check.STATE, full::undo);
        Check.answers(12, full::turbineCount);
    }

    @Sentence("Returns the number of turbines.")
    static void promise63restoreSnapshotReturnsTheNumberOfTurbines() {
        WindFarmDispatcher farm = Farms.empty();
        farm.saveSnapshot();
        farm.addTurbine(0, 0, 1);
        Check.answers(0, farm::restoreSnapshot);
        farm.addTurbine(0, 0, 1);
        farm.addTurbine(0, 1, 1);
        farm.saveSnapshot();
        farm.undo();
        Check.answers(2, farm::restoreSnapshot);
    }

    @Sentence("Throws `IllegalStateException` if there is no snapshot")
    static void promise63restoreSnapshotNeedsASnapshot() {
        Twins.refuses(Check.STATE, Farms::empty, WindFarmDispatcher::restoreSnapshot);
        Twins.refuses(Check.STATE, Farms::column, WindFarmDispatcher::restoreSnapshot);
        Twins.refuses(Check.STATE, Farms::full, WindFarmDispatcher::restoreSnapshot);
        WindFarmDispatcher farm = Farms.empty();
        farm.saveSnapshot();
        Check.answers(0, farm::restoreSnapshot);
    }
}
