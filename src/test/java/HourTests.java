/** Promises 40 to 52: hours, accounts and orders. */
final class HourTests {
    // ---- passHours

    @Sentence("Lets hours pass.")
    static void promise40passHours() {
        WindFarmDispatcher farm = Farms.busy();
        farm.passHours(4);
        Check.answers(6, farm::time);
        Check.answers(250L + 4 * 110L, farm::energyMade);
        Check.answers(12L + 4 * 5L, farm::energyLost);
        Check.answers(1, () -> farm.serviceHoursLeft(3));
        farm.passHours(48);
        Check.answers(54, farm::time);
        Check.answers("running", () -> Farms.stateOf(farm, 3));
        // the turbine in service makes 30 from the second of these hours on
        Check.answers(250L + 5 * 110L + 47 * 140L, farm::energyMade);
        Check.answers(12L + 5 * 5L + 47 * 7L, farm::energyLost);
    }

    /** Hours that pass at once are as hours that pass one by one. */
    @Sentence("Lets hours pass.")
    static void promise40hoursAtOnceAndOneByOne() {
        WindFarmDispatcher atOnce = Farms.busy();
        WindFarmDispatcher oneByOne = Farms.busy();
        int sold = 0;
        for (int hour = 0; hour < 30; hour++) {
            sold += oneByOne.passHours(1);
        }
        Check.answers(sold, () -> atOnce.passHours(30));
        Check.answers(Farms.dataOf(oneByOne), () -> Farms.dataOf(atOnce));
    }

    @Sentence("- `hours`: the number of hours, 1 to 48")
    static void promise40hoursAreOneTo48() {
        for (int hours = 1; hours <= 48; hours++) {
            int given = hours;
            WindFarmDispatcher farm = Farms.alone(9);
            Check.answers(0, () -> farm.passHours(given));
            Check.answers(given, farm::time);
            Check.answers(90L * given, farm::energyMade);
        }
    }

    @Sentence("Returns the units of energy that are sold in these hours.")
    static void promise40passHoursReturnsWhatIsSold() {
        Twins.changes(0, Farms::column, farm -> farm.passHours(48));
        Twins.changes(0, Farms::busy, farm -> farm.passHours(18));
        // at 20 o'clock there are 140 less 7, at 1 o'clock the bid is for 100
        Twins.changes(133, Farms::busy, farm -> farm.passHours(19));
        Twins.changes(133, Farms::busy, farm -> farm.passHours(23));
        Twins.changes(233, Farms::busy, farm -> farm.passHours(24));
        Twins.changes(466, Farms::busy, farm -> farm.passHours(48));
    }

    @Sentence("Throws `IllegalArgumentException` if hours is out of range")
    static void promise40passHoursNeedsHours() {
        Twins.needRange(1, 48, Farms::busy, WindFarmDispatcher::passHours);
    }

    @Sentence({"Returns the time.", "Returns the number of hours that have passed so far."})
    static void promise41time() {
        Twins.reads(0, Farms::empty, WindFarmDispatcher::time);
        Twins.reads(2, Farms::busy, WindFarmDispatcher::time);
        WindFarmDispatcher farm = Farms.empty();
        farm.passHours(23);
        Check.answers(23, farm::time);
        farm.passHours(1);
        Check.answers(24, farm::time);
        farm.passHours(48);
        Check.answers(72, farm::time);
        Farms.run(farm, "t12;t13");
        Check.answers(97, farm::time);
        farm.undo();
        Check.answers(72, farm::time);
    }

    // ---- forecasts

    @Sentence("Returns how many coins would be earned if hours passed now.")
    static void promise42incomeWithin() {
        for (int hours : new int[] {1, 2, 18, 19, 23, 24, 42, 43, 47, 48}) {
            WindFarmDispatcher farm = Farms.busy();
            farm.passHours(hours);
            int income = (int) (farm.coins() - 1000);
            Twins.reads(income, Farms::busy, busy -> busy.incomeWithin(hours));
        }
        WindFarmDispatcher farm = Farms.alone(1);
        farm.placeBid(0, 7, 10);
        farm.passHours(24);
        // the coins that there are already do not count
        Check.answers(70, () -> farm.incomeWithin(24));
    }

    @Sentence("- `hours`: the number of hours, 1 to 48")
    static void promise42incomeWithinOneTo48Hours() {
        WindFarmDispatcher farm = Farms.alone(1);
        farm.placeBid(0, 7, 10);
        farm.placeBid(23, 11, 10);
        int[][] hoursAndIncomes = {{1, 70}, {2, 70}, {23, 70}, {24, 180}, {25, 250}, {47, 250}, {48, 360}};
        for (int[] row : hoursAndIncomes) {
            Check.answers(row[1], () -> farm.incomeWithin(row[0]));
        }
    }

    @Sentence("Returns the number of coins, which can be negative.")
    static void promise42incomeCanBeNegative() {
        WindFarmDispatcher farm = Farms.empty();
        for (int hour = 0; hour < 24; hour++) {
            farm.placeBid(hour, 50, 500);
        }
        Check.answers(-25000, () -> farm.incomeWithin(1));
        Check.answers(-1200000, () -> farm.incomeWithin(48));
        WindFarmDispatcher even = Farms.alone(1);
        even.placeBid(0, 50, 20);
        Check.answers(0, () -> even.incomeWithin(1));
        even.withdrawBid(0);
        even.placeBid(0, 50, 21);
        Check.answers(-50, () -> even.incomeWithin(1));
    }

    @Sentence("Throws `IllegalArgumentException` if hours is out of range")
    static void promise42incomeWithinNeedsHours() {
        Twins.needRange(1, 48, Farms::busy, WindFarmDispatcher::incomeWithin);
    }

    @Sentence("Returns after how many hours the next hour with a bid begins.")
    static void promise43hoursToBid() {
        Twins.reads(18, Farms::busy, WindFarmDispatcher::hoursToBid);
        for (int hour = 0; hour < 24; hour++) {
            for (int time : new int[] {1, 12, 23, 24, 47}) {
                WindFarmDispatcher farm = Farms.empty();
                farm.placeBid(hour, 1, 1);
                farm.passHours(time);
                Check.answers((hour + 48 - time) % 24, farm::hoursToBid);
            }
        }
        WindFarmDispatcher farm = Farms.busy();
        farm.passHours(19);
        // from 21 o'clock on the next bid is that of 1 o'clock
        Check.answers(4, farm::hoursToBid);
    }

    @Sentence("Returns the number of hours, 0 if there is a bid for the present hour of the day.")
    static void promise43hoursToBidOfThePresentHour() {
        WindFarmDispatcher farm = Farms.empty();
        farm.placeBid(0, 1, 1);
        Check.answers(0, farm::hoursToBid);
        farm.passHours(1);
        Check.answers(23, farm::hoursToBid);
        farm.placeBid(2, 1, 1);
        Check.answers(1, farm::hoursToBid);
        farm.passHours(1);
        Check.answers(0, farm::hoursToBid);
        farm.passHours(22);
        Check.answers(0, farm::hoursToBid);
        farm.withdrawBid(0);
        Check.answers(2, farm::hoursToBid);
    }

    @Sentence("Throws `NoSuchElementException` if there are no bids")
    static void promise43hoursToBidNeedsABid() {
        Twins.refuses(Check.ELEMENT, Farms::empty, WindFarmDispatcher::hoursToBid);
        Twins.refuses(Check.ELEMENT, Farms::column, WindFarmDispatcher::hoursToBid);
        WindFarmDispatcher farm = Farms.busy();
        farm.withdrawBid(20);
        Check.answers(23, farm::hoursToBid);
        farm.withdrawBid(1);
        Check.refuses(Check.ELEMENT, farm::hoursToBid);
    }

    // ---- accounts

    @Sentence({"Returns the energy that has been made so far.", "Returns the units of energy."})
    static void promise44energyMade() {
        Twins.reads(0L, Farms::empty, WindFarmDispatcher::energyMade);
        Twins.reads(250L, Farms::busy, WindFarmDispatcher::energyMade);
        WindFarmDispatcher full = Farms.full(9);
        full.setWind('N', 12);
        for (int pair = 1; pair <= 100; pair++) {
            full.passHours(48);
        }
        Check.answers(1080L * 4800L, full::energyMade);
    }

    @Sentence({"Returns the energy that has been lost on the line so far.", "Returns the units of energy."})
    static void promise45energyLost() {
        Twins.reads(0L, Farms::empty, WindFarmDispatcher::energyLost);
        Twins.reads(12L, Farms::busy, WindFarmDispatcher::energyLost);
        // the loss is that of each hour, not a twentieth of all
        WindFarmDispatcher farm = Farms.alone(1);
        farm.passHours(48);
        Check.answers(0L, farm::energyLost);
        farm.setWind('N', 2);
        farm.passHours(48);
        Check.answers(0L, farm::energyLost);
    }

    @Sentence({"Returns the energy that has been sold so far.", "Returns the units of energy."})
    static void promise46energySold() {
        Twins.reads(0L, Farms::empty, WindFarmDispatcher::energySold);
        Twins.reads(100L, Farms::busy, WindFarmDispatcher::energySold);
        WindFarmDispatcher farm = Farms.busy();
        farm.passHours(48);
        Check.answers(566L, farm::energySold);
    }

    @Sentence({"Returns the energy that was made so far, but neither lost nor sold.", "Returns the units of energy."})
    static void promise47energySpilled() {
        Twins.reads(0L, Farms::empty, WindFarmDispatcher::energySpilled);
        Twins.reads(138L, Farms::busy, WindFarmDispatcher::energySpilled);
        WindFarmDispatcher farm = Farms.busy();
        farm.passHours(48);
        Check.answers(farm.energyMade() - farm.energyLost() - 566L, farm::energySpilled);
    }

    @Sentence("Returns the coins that have been earned so far.")
    static void promise48coins() {
        Twins.reads(0L, Farms::empty, WindFarmDispatcher::coins);
        Twins.reads(1000L, Farms::busy, WindFarmDispatcher::coins);
        WindFarmDispatcher farm = Farms.busy();
        farm.passHours(23);
        Check.answers(1000L + 30 * (133 - 267), farm::coins);
        farm.passHours(1);
        Check.answers(2000L + 30 * (133 - 267), farm::coins);
    }

    @Sentence("Returns the number of coins, which can be negative.")
    static void promise48coinsCanBeNegative() {
        WindFarmDispatcher farm = Farms.empty();
        for (int hour = 0; hour < 24; hour++) {
            farm.placeBid(hour, 50, 500);
        }
        farm.passHours(1);
        Check.answers(-25_000L, farm::coins);
        for (int pair = 1; pair <= 100; pair++) {
            farm.passHours(48);
        }
        Check.answers(-25_000L - 120_000_000L, farm::coins);
    }

    // ---- orders

    @Sentence("Returns a turbine in the order of outputs, the greatest output first.")
    static void promise49turbineByOutput() {
        WindFarmDispatcher farm = Farms.column();
        order(farm, 0, 1, 2, 3);
        farm.curtail(0, 34);
        order(farm, 1, 0, 2, 3);
        farm.curtail(0, 29);
        order(farm, 1, 2, 3, 0);
        farm.fail(1);
        // the turbine 2 has a loss of 1 now
        order(farm, 2, 3, 0, 1);
        farm.setWind('S', 12);
        order(farm, 2, 3, 0, 1);
    }

    @Sentence("Of turbines with the same output, the one with the greater rated power comes first, then the one with the "
            + "lower index.")
    static void promise49turbinesOfTheSameOutput() {
        WindFarmDispatcher calm = Farms.empty();
        int[][] turbines = {{0, 0, 2}, {0, 2, 3}, {2, 1, 9}, {4, 4, 3}, {4, 2, 2}};
        for (int[] turbine : turbines) {
            calm.addTurbine(turbine[0], turbine[1], turbine[2]);
        }
        order(calm, 2, 1, 3, 0, 4);
        calm.setWind('S', 12);
        for (int turbine = 0; turbine < 5; turbine++) {
            calm.curtail(turbine, 15);
        }
        order(calm, 2, 1, 3, 0, 4);
        calm.curtail(4, 16);
        calm.fail(2);
        order(calm, 4, 1, 3, 0, 2);
    }

    @Sentence("- `position`: the position, from 0")
    static void promise49positionIsFromZero() {
        WindFarmDispatcher farm = Farms.full(1);
        order(farm, 0, 1, 2, 3, 4, 5, 6, 7, 8, 9, 10, 11);
        Check.refuses(Check.ELEMENT, () -> farm.turbineByOutput(-1));
    }

    @Sentence("Returns the index of the turbine.")
    static void promise49turbineByOutputReturnsTheIndex() {
        Twins.reads(0, Farms::busy, farm -> farm.turbineByOutput(0));
        Twins.reads(1, Farms::busy, farm -> farm.turbineByOutput(1));
        Twins.reads(2, Farms::busy, farm -> farm.turbineByOutput(2));
        Twins.reads(3, Farms::busy, farm -> farm.turbineByOutput(3));
    }

    @Sentence("Throws `NoSuchElementException` if there is no such position")
    static void promise49turbineByOutputNeedsAPosition() {
        Twins.refuses(Check.ELEMENT, Farms::empty, farm -> farm.turbineByOutput(0));
        Twins.refuses(Check.ELEMENT, Farms::full, farm -> farm.turbineByOutput(12));
        Twins.refuseEach(Check.ELEMENT, Farms::busy, WindFarmDispatcher::turbineByOutput,
                4, -1, 5, 12, Integer.MIN_VALUE, Integer.MAX_VALUE);
    }

    private static void order(WindFarmDispatcher farm, int... due) {
        for (int at = 0; at < due.length; at++) {
            int position = at;
            Check.answers(due[at], () -> farm.turbineByOutput(position));
        }
        Check.refuses(Check.ELEMENT, () -> farm.turbineByOutput(due.length));
    }

    // ---- means

    @Sentence({"Returns the mean output of all turbines: the total output divided by their number, both converted to "
            + "double.", "Returns the mean output in tenths of a megawatt."})
    static void promise50meanOutput() {
        Twins.reads(27.5, Farms::busy, WindFarmDispatcher::meanOutput);
        Twins.reads(46.25, Farms::column, WindFarmDispatcher::meanOutput);
        Twins.reads(0.0, Farms::full, WindFarmDispatcher::meanOutput);
        Twins.reads(70.0, () -> Farms.alone(7), WindFarmDispatcher::meanOutput);
        WindFarmDispatcher farm = Farms.alone(1);
        farm.addTurbine(0, 0, 1);
        farm.addTurbine(0, 5, 1);
        farm.fail(0);
        // no float and no other way to round has this value
        Check.answers(20.0 / 3.0, farm::meanOutput);
        Check.isTrue("a double", farm.meanOutput() != (double) (20.0f / 3.0f));
    }

    @Sentence("Throws `ArithmeticException` if there are no turbines")
    static void promise50meanOutputNeedsATurbine() {
        Twins.refuses(Check.ARITHMETIC, Farms::empty, WindFarmDispatcher::meanOutput);
        WindFarmDispatcher farm = Farms.empty();
        farm.addTurbine(0, 0, 1);
        Check.answers(0.0, farm::meanOutput);
        farm.undo();
        Check.refuses(Check.ARITHMETIC, farm::meanOutput);
    }

    @Sentence({"Returns the share of running turbines among all turbines, both numbers converted to float.",
        "Returns the share."})
    static void promise51runningShare() {
        Twins.reads(0.5f, Farms::busy, WindFarmDispatcher::runningShare);
        Twins.reads(1.0f, Farms::full, WindFarmDispatcher::runningShare);
        WindFarmDispatcher farm = Farms.full();
        for (int failed = 1; failed <= 12; failed++) {
            farm.fail(failed - 1);
            Check.answers((float) (12 - failed) / 12.0f, farm::runningShare);
        }
        farm.sendCrew(0, 1);
        Check.answers(0.0f, farm::runningShare);
        farm.passHours(1);
        Check.answers(1.0f / 12.0f, farm::runningShare);
    }

    @Sentence("Throws `ArithmeticException` if there are no turbines")
    static void promise51runningShareNeedsATurbine() {
        Twins.refuses(Check.ARITHMETIC, Farms::empty, WindFarmDispatcher::runningShare);
        WindFarmDispatcher farm = Farms.empty();
        farm.addTurbine(0, 0, 1);
        farm.fail(0);
        Check.answers(0.0f, farm::runningShare);
        farm.undo();
        farm.undo();
        Check.refuses(Check.ARITHMETIC, farm::runningShare);
    }

    @Sentence({"Checks the data: both ways to compute the total output agree, the energy made is the energy lost, sold and "
            + "spilled, and no more than 2 turbines are in service.", "Returns whether all this is true."})
    static void promise52isConsistent() {
        Twins.reads(true, Farms::empty, WindFarmDispatcher::isConsistent);
        Twins.reads(true, Farms::busy, WindFarmDispatcher::isConsistent);
        Twins.reads(true, Farms::full, WindFarmDispatcher::isConsistent);
        WindFarmDispatcher farm = Farms.full(9);
        for (int turbine = 3; turbine < 7; turbine++) {
            farm.fail(turbine);
        }
        farm.placeBid(2, 9, 300);
        farm.setGridLimit(500);
        for (char direction : "NESW".toCharArray()) {
            farm.setWind(direction, 12);
            farm.dispatch();
            farm.passHours(30);
            Check.answers(true, farm::isConsistent);
        }
        // both crews are at work
        farm.sendCrew(4, 9);
        farm.sendCrew(5, 12);
        Check.answers(true, farm::isConsistent);
        Check.outcome(() -> farm.sendCrew(6, 12));
        Check.answers(true, farm::isConsistent);
        farm.undo();
        Check.answers(true, farm::isConsistent);
    }
}
