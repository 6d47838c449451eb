/**
 * Farms made alike, of which one gets a call: what differs between them afterwards is what the call changed.
 * They are made anew for each call, and told to the end of their changes.
 */
final class Twins {
    interface Maker {
        WindFarmDispatcher make();
    }

    interface Use {
        Object on(WindFarmDispatcher farm);
    }

    /** A call with a turbine, an hour or another number. */
    interface NumberUse {
        Object on(WindFarmDispatcher farm, int number);
    }

    interface CellUse {
        Object on(WindFarmDispatcher farm, int row, int column);
    }

    private Twins() {
    }

    /** Checks that a call throws and changes nothing at all. */
    static void refuses(Class<? extends RuntimeException> due, Maker maker, Use use) {
        keepsAll(Check.thrown(due), maker, use);
    }

    /** Checks what a call answers, and that it changes nothing at all. */
    static void reads(Object due, Maker maker, Use use) {
        keepsAll(due, maker, use);
    }

    /** Checks that a call is rejected and changes nothing but the latest rejection. */
    static void rejects(int reason, int detail, Maker maker, Use use) {
        WindFarmDispatcher farm = maker.make();
        Check.rejects(farm, reason, detail, () -> use.on(farm));
        String[] story = storyOf(farm);
        String[] due = storyOf(maker.make());
        Check.answers(due[1], () -> story[1]);
    }

    /** Checks that a call is one change, which undo takes back as a whole. */
    static void changes(Object due, Maker maker, Use use) {
        WindFarmDispatcher farm = maker.make();
        String before = Farms.dataOf(farm);
        Object left = changesOf(maker.make());
        Check.answers(due, () -> use.on(farm));
        Check.answers(left, farm::undo);
        Check.answers(before, () -> Farms.dataOf(farm));
    }

    /** Checks that there must be such a turbine: in an empty farm, in one of four and in a full one. */
    static void needTurbine(NumberUse use) {
        refuseEach(Check.INDEX, Farms::empty, use, 0, 1, -1, 11);
        refuseEach(Check.INDEX, Farms::busy, use, 4, -1, 5, 11, 12, Integer.MIN_VALUE, Integer.MAX_VALUE);
        refuseEach(Check.INDEX, Farms::full, use, 12, -1, 13);
        takeEach(Check.INDEX, Farms::busy, use, 0, 1, 2, 3);
        takeEach(Check.INDEX, Farms::full, use, 0, 11);
    }

    /** Checks that there must be such an hour of the day. */
    static void needHourOfDay(NumberUse use) {
        refuseEach(Check.INDEX, Farms::busy, use, -1, 24, 25, 48, Integer.MIN_VALUE, Integer.MAX_VALUE);
        takeEach(Check.INDEX, Farms::busy, use, 0, 1, 20, 23);
    }

    static void needCell(CellUse use) {
        int[][] outside = {{-1, 0}, {5, 0}, {0, -1}, {0, 6}, {4, 6}, {5, 5}, {-1, 6}, {1, -1}, {3, 6}, {-2, 3}, {2, 9},
            {Integer.MIN_VALUE, 0}, {0, Integer.MIN_VALUE}, {Integer.MAX_VALUE, 5}, {4, Integer.MAX_VALUE}};
        for (int[] cell : outside) {
            refuses(Check.INDEX, Farms::busy, farm -> use.on(farm, cell[0], cell[1]));
        }
        for (int[] cell : new int[][] {{0, 0}, {0, 5}, {4, 0}, {4, 5}, {2, 3}}) {
            takeEach(Check.INDEX, Farms::busy, (farm, none) -> use.on(farm, cell[0], cell[1]), 0);
        }
    }

    /** Checks that a number must be within a range. */
    static void needRange(int least, int most, Maker maker, NumberUse use) {
        refuseEach(Check.ARGUMENT, maker, use, least - 1, most + 1, -most, Integer.MIN_VALUE, Integer.MAX_VALUE);
        takeEach(Check.ARGUMENT, maker, use, least, most);
    }

    static void refuseEach(Class<? extends RuntimeException> due, Maker maker, NumberUse use, int... numbers) {
        for (int number : numbers) {
            refuses(due, maker, farm -> use.on(farm, number));
        }
    }

    /** Checks that a call does not throw what others throw; it may well be rejected. */
    private static void takeEach(Class<? extends RuntimeException> undue, Maker maker, NumberUse use, int... numbers) {
        for (int number : numbers) {
            WindFarmDispatcher farm = maker.make();
            Object got = Check.outcome(() -> use.on(farm, number));
            Check.isTrue(number + " is accepted, but it " + got, !got.equals(Check.thrown(undue)));
        }
    }

    private static void keepsAll(Object due, Maker maker, Use use) {
        WindFarmDispatcher farm = maker.make();
        Check.answers(due, () -> use.on(farm));
        String[] story = storyOf(farm);
        String[] dueStory = storyOf(maker.make());
        Check.answers(dueStory[0], () -> story[0]);
        Check.answers(dueStory[1], () -> story[1]);
    }

    private static int changesOf(WindFarmDispatcher farm) {
        int changes = 0;
        while (changes < 7 && Check.outcome(farm::undo) instanceof Integer) {
            changes++;
        }
        return changes;
    }

    /** The latest rejection, and all else that can be seen of a farm: what undo, restore and execute do, too. */
    private static String[] storyOf(WindFarmDispatcher farm) {
        String rejection = Farms.rejectionOf(farm);
        StringBuilder story = new StringBuilder(Farms.dataOf(farm));
        story.append("; output ").append(Farms.outputOf(farm));
        story.append("; syntax ").append(Check.outcome(farm::syntaxErrorOffset));
        for (int time = 1; time <= 9; time++) {
            Object left = Check.outcome(farm::undo);
            story.append("; undo ").append(left);
            if (!(left instanceof Integer)) {
                break;
            }
            story.append(' ').append(Farms.sketchOf(farm));
        }
        story.append("; restore ").append(Check.outcome(farm::restoreSnapshot)).append(' ').append(Farms.dataOf(farm));
        story.append("; input ").append(Check.outcome(() -> farm.appendInput(';')));
        story.append(' ').append(Check.outcome(() -> farm.appendInput('v')));
        story.append(" execute ").append(Check.outcome(farm::execute)).append(' ').append(Farms.sketchOf(farm));
        return new String[] {rejection, story.toString()};
    }
}
