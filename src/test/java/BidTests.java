/** Promises 30 to 39: curtailment and bids. */
final class BidTests {
    // ---- the grid limit

    @Sentence("Sets the grid limit.")
    static void promise30setGridLimit() {
        WindFarmDispatcher farm = Farms.busy();
        farm.setGridLimit(10);
        Check.answers(10, farm::gridLimit);
        // the turbines are as they were until there is a dispatch
        Check.answers(110, farm::totalOutput);
        farm.setGridLimit(11);
        Check.answers(11, farm::gridLimit);
    }

    @Sentence("- `limit`: the new limit in tenths of a megawatt, 0 to 999")
    static void promise30gridLimitIsZeroTo999() {
        for (int limit : new int[] {0, 1, 998, 999}) {
            WindFarmDispatcher farm = Farms.busy();
            Check.answers(150, () -> farm.setGridLimit(limit));
            Check.answers(limit, farm::gridLimit);
        }
    }

    @Sentence("Returns the previous limit.")
    static void promise30setGridLimitReturnsThePrevious() {
        Twins.changes(999, Farms::empty, farm -> farm.setGridLimit(0));
        Twins.changes(150, Farms::busy, farm -> farm.setGridLimit(999));
        Twins.changes(150, Farms::busy, farm -> farm.setGridLimit(150));
        WindFarmDispatcher farm = Farms.empty();
        farm.setGridLimit(0);
        Check.answers(0, () -> farm.setGridLimit(5));
    }

    @Sentence("Throws `IllegalArgumentException` if limit is out of range")
    static void promise30setGridLimitNeedsALimit() {
        Twins.needRange(0, 999, Farms::busy, WindFarmDispatcher::setGridLimit);
    }

    @Sentence({"Returns the grid limit.", "Returns the limit in tenths of a megawatt."})
    static void promise31gridLimit() {
        Twins.reads(999, Farms::empty, WindFarmDispatcher::gridLimit);
        Twins.reads(150, Farms::busy, WindFarmDispatcher::gridLimit);
    }

    // ---- dispatch and releaseAll

    @Sentence("Curtails turbines until the total output is not greater than the grid limit.")
    static void promise32dispatch() {
        for (int limit = 0; limit <= 190; limit += 5) {
            WindFarmDispatcher farm = Farms.column();
            farm.setGridLimit(limit);
            farm.dispatch();
            Check.answers(Math.min(limit, 185), farm::totalOutput);
        }
        WindFarmDispatcher full = Farms.full(9);
        full.setWind('N', 12);
        full.dispatch();
        Check.answers(999, full::totalOutput);
        Check.answers(9, () -> full.limitOf(0));
        Check.refuses(Check.ELEMENT, () -> full.limitOf(1));
    }

    @Sentence("Returns the number of turbines that get a limit by the call; turbines that were curtailed before count, too.")
    static void promise32dispatchReturnsHowManyGetALimit() {
        Twins.Maker curtailed = () -> {
            WindFarmDispatcher farm = Farms.busy();
            farm.setGridLimit(19);
            return farm;
        };
        Twins.changes(2, curtailed, WindFarmDispatcher::dispatch);
        Twins.changes(0, Farms::busy, WindFarmDispatcher::dispatch);
        Twins.changes(0, Farms::empty, WindFarmDispatcher::dispatch);
        WindFarmDispatcher full = Farms.full(9);
        full.setWind('N', 12);
        full.setGridLimit(0);
        Check.answers(12, full::dispatch);
        Check.answers(0, full::dispatch);
        Check.answers(12, full::releaseAll);
    }

    @Sentence("Ends the curtailment of all turbines.")
    static void promise33releaseAll() {
        WindFarmDispatcher farm = Farms.column();
        farm.curtail(0, 0);
        farm.curtail(1, 35);
        farm.curtail(3, 90);
        farm.releaseAll();
        for (int turbine = 0; turbine < 4; turbine++) {
            int at = turbine;
            Check.refuses(Check.ELEMENT, () -> farm.limitOf(at));
        }
        Check.answers(185, farm::totalOutput);
    }

    @Sentence("Returns the number of turbines that were curtailed.")
    static void promise33releaseAllReturnsHowManyWereCurtailed() {
        Twins.changes(1, Farms::busy, WindFarmDispatcher::releaseAll);
        Twins.changes(0, Farms::column, WindFarmDispatcher::releaseAll);
        Twins.changes(0, Farms::empty, WindFarmDispatcher::releaseAll);
        WindFarmDispatcher farm = Farms.full();
        for (int turbine = 0; turbine < 12; turbine++) {
            farm.curtail(turbine, 90);
        }
        farm.fail(11);
        Check.answers(11, farm::releaseAll);
        Check.answers(0, farm::releaseAll);
    }

    // ---- placeBid

    @Sentence("Places a bid for an hour of each day.")
    static void promise34placeBid() {
        WindFarmDispatcher farm = Farms.alone(1);
        farm.placeBid(5, 3, 10);
        Check.answers(true, () -> farm.hasBid(5));
        Check.answers(3, () -> farm.bidPrice(5));
        Check.answers(10, () -> farm.bidQuantity(5));
        Check.answers(false, () -> farm.hasBid(4));
        Check.answers(10, () -> farm.passHours(24));
        Check.answers(20, () -> farm.passHours(48));
        Check.answers(true, () -> farm.hasBid(5));
    }

    @Sentence("- `hour`: the hour of the day, 0 to 23")
    static void promise34bidIsForEachHour() {
        WindFarmDispatcher farm = Farms.empty();
        for (int hour = 0; hour < 24; hour++) {
            int given = hour;
            Check.answers(hour + 1, () -> farm.placeBid(given, 1 + given, 100 + given));
        }
        for (int hour = 0; hour < 24; hour++) {
            int given = hour;
            Check.answers(1 + hour, () -> farm.bidPrice(given));
            Check.answers(100 + hour, () -> farm.bidQuantity(given));
        }
    }

    @Sentence("- `price`: the price of a unit of energy in coins, 1 to 50")
    static void promise34priceIsOneToFifty() {
        for (int price : new int[] {1, 2, 49, 50}) {
            WindFarmDispatcher farm = Farms.empty();
            Check.answers(1, () -> farm.placeBid(23, price, 7));
            Check.answers(price, () -> farm.bidPrice(23));
        }
        Twins.needRange(1, 50, Farms::busy, (farm, price) -> farm.placeBid(5, price, 1));
    }

    @Sentence("- `quantity`: the quantity in units of energy, 1 to 500")
    static void promise34quantityIsOneTo500() {
        for (int quantity : new int[] {1, 2, 499, 500}) {
            WindFarmDispatcher farm = Farms.empty();
            Check.answers(1, () -> farm.placeBid(0, 7, quantity));
            Check.answers(quantity, () -> farm.bidQuantity(0));
        }
        Twins.needRange(1, 500, Farms::busy, (farm, quantity) -> farm.placeBid(5, 1, quantity));
    }

    @Sentence("Returns the number of bids after the call.")
    static void promise34placeBidReturnsHowManyThereAre() {
        Twins.changes(1, Farms::empty, farm -> farm.placeBid(0, 50, 500));
        Twins.changes(3, Farms::busy, farm -> farm.placeBid(0, 1, 1));
        WindFarmDispatcher farm = Farms.busy();
        farm.withdrawBid(1);
        Check.answers(2, () -> farm.placeBid(2, 1, 1));
    }

    @Sentence("Throws `IndexOutOfBoundsException` if there is no such hour of the day")
    static void promise34placeBidNeedsAnHour() {
        Twins.needHourOfDay((farm, hour) -> farm.placeBid(hour, 1, 1));
    }

    @Sentence("Throws `IllegalArgumentException` if price or quantity is out of range")
    static void promise34placeBidNeedsAPriceAndAQuantity() {
        Twins.needRange(1, 50, Farms::busy, (farm, price) -> farm.placeBid(5, price, 500));
        Twins.needRange(1, 500, Farms::busy, (farm, quantity) -> farm.placeBid(5, 50, quantity));
        Twins.refuses(Check.ARGUMENT, Farms::busy, farm -> farm.placeBid(5, 0, 0));
        Twins.refuses(Check.ARGUMENT, Farms::busy, farm -> farm.placeBid(5, 51, 501));
        Twins.refuses(Check.ARGUMENT, Farms::busy, farm -> farm.placeBid(1, 1, 0));
    }

    @Sentence("Throws `UnsupportedOperationException` if the call is rejected with the reason BID_EXISTS")
    static void promise34placeBidIsRejected() {
        Twins.rejects(WindFarmDispatcher.BID_EXISTS, 10, Farms::busy, farm -> farm.placeBid(1, 10, 100));
        Twins.rejects(WindFarmDispatcher.BID_EXISTS, 30, Farms::busy, farm -> farm.placeBid(20, 50, 500));
    }

    // ---- withdrawBid

    @Sentence("Withdraws a bid.")
    static void promise35withdrawBid() {
        WindFarmDispatcher farm = Farms.busy();
        farm.withdrawBid(1);
        Check.answers(false, () -> farm.hasBid(1));
        Check.answers(true, () -> farm.hasBid(20));
        Check.refuses(Check.ELEMENT, () -> farm.bidPrice(1));
        Check.refuses(Check.ELEMENT, () -> farm.bidQuantity(1));
        Check.refuses(Check.ELEMENT, () -> farm.bidByPrice(1));
        farm.withdrawBid(20);
        Check.answers(0, () -> farm.passHours(48));
        Check.answers(1000L, farm::coins);
        Check.answers(1, () -> farm.placeBid(1, 2, 3));
    }

    @Sentence("- `hour`: the hour of the day, 0 to 23")
    static void promise35bidOfEachHourIsWithdrawn() {
        WindFarmDispatcher farm = Farms.empty();
        for (int hour = 0; hour < 24; hour++) {
            farm.placeBid(hour, 1, 100 + hour);
        }
        for (int hour = 23; hour >= 0; hour--) {
            int given = hour;
            Check.answers(100 + hour, () -> farm.withdrawBid(given));
        }
    }

    @Sentence("Returns the quantity of the bid.")
    static void promise35withdrawBidReturnsTheQuantity() {
        Twins.changes(100, Farms::busy, farm -> farm.withdrawBid(1));
        Twins.changes(400, Farms::busy, farm -> farm.withdrawBid(20));
        WindFarmDispatcher farm = Farms.empty();
        farm.placeBid(0, 50, 1);
        farm.placeBid(23, 1, 500);
        Check.answers(1, () -> farm.withdrawBid(0));
        Check.answers(500, () -> farm.withdrawBid(23));
    }

    @Sentence("Throws `IndexOutOfBoundsException` if there is no such hour of the day")
    static void promise35withdrawBidNeedsAnHour() {
        Twins.needHourOfDay(WindFarmDispatcher::withdrawBid);
    }

    @Sentence("Throws `UnsupportedOperationException` if the call is rejected with the reason NO_BID")
    static void promise35withdrawBidIsRejected() {
        Twins.rejects(WindFarmDispatcher.NO_BID, 0, Farms::empty, farm -> farm.withdrawBid(0));
        Twins.rejects(WindFarmDispatcher.NO_BID, 2, Farms::busy, farm -> farm.withdrawBid(23));
        WindFarmDispatcher farm = Farms.busy();
        farm.withdrawBid(1);
        Check.rejects(farm, WindFarmDispatcher.NO_BID, 1, () -> farm.withdrawBid(1));
    }

    // ---- the bids

    @Sentence({"Tells whether there is a bid for an hour of the day.", "Returns whether there is a bid."})
    static void promise36hasBid() {
        Twins.reads(true, Farms::busy, farm -> farm.hasBid(1));
        Twins.reads(true, Farms::busy, farm -> farm.hasBid(20));
        Twins.reads(false, Farms::busy, farm -> farm.hasBid(2));
    }

    @Sentence("- `hour`: the hour of the day, 0 to 23")
    static void promise36hasBidForEachHour() {
        for (int hour = 0; hour < 24; hour++) {
            int given = hour;
            WindFarmDispatcher farm = Farms.empty();
            Check.answers(false, () -> farm.hasBid(given));
            farm.placeBid(hour, 1, 1);
            for (int other = 0; other < 24; other++) {
                int asked = other;
                Check.answers(other == hour, () -> farm.hasBid(asked));
            }
        }
    }

    @Sentence("Throws `IndexOutOfBoundsException` if there is no such hour of the day")
    static void promise36hasBidNeedsAnHour() {
        Twins.needHourOfDay(WindFarmDispatcher::hasBid);
    }

    @Sentence({"Returns the price of a bid.", "Returns the price."})
    static void promise37bidPrice() {
        Twins.reads(10, Farms::busy, farm -> farm.bidPrice(1));
        Twins.reads(30, Farms::busy, farm -> farm.bidPrice(20));
    }

    @Sentence("- `hour`: the hour of the day, 0 to 23")
    static void promise37bidPriceOfTheFirstAndTheLastHour() {
        WindFarmDispatcher farm = Farms.empty();
        farm.placeBid(0, 1, 11);
        farm.placeBid(23, 50, 12);
        Check.answers(1, () -> farm.bidPrice(0));
        Check.answers(50, () -> farm.bidPrice(23));
    }

    @Sentence("Throws `IndexOutOfBoundsException` if there is no such hour of the day")
    static void promise37bidPriceNeedsAnHour() {
        Twins.needHourOfDay(WindFarmDispatcher::bidPrice);
    }

    @Sentence("Throws `NoSuchElementException` if there is no bid for this hour")
    static void promise37bidPriceNeedsABid() {
        Twins.refuses(Check.ELEMENT, Farms::empty, farm -> farm.bidPrice(0));
        Twins.refuses(Check.ELEMENT, Farms::busy, farm -> farm.bidPrice(0));
        Twins.refuses(Check.ELEMENT, Farms::busy, farm -> farm.bidPrice(23));
    }

    @Sentence({"Returns the quantity of a bid.", "Returns the quantity."})
    static void promise38bidQuantity() {
        Twins.reads(100, Farms::busy, farm -> farm.bidQuantity(1));
        Twins.reads(400, Farms::busy, farm -> farm.bidQuantity(20));
    }

    @Sentence("- `hour`: the hour of the day, 0 to 23")
    static void promise38bidQuantityOfTheFirstAndTheLastHour() {
        WindFarmDispatcher farm = Farms.empty();
        farm.placeBid(0, 11, 1);
        farm.placeBid(23, 12, 500);
        Check.answers(1, () -> farm.bidQuantity(0));
        Check.answers(500, () -> farm.bidQuantity(23));
    }

    @Sentence("Throws `IndexOutOfBoundsException` if there is no such hour of the day")
    static void promise38bidQuantityNeedsAnHour() {
        Twins.needHourOfDay(WindFarmDispatcher::bidQuantity);
    }

    @Sentence("Throws `NoSuchElementException` if there is no bid for this hour")
    static void promise38bidQuantityNeedsABid() {
        Twins.refuses(Check.ELEMENT, Farms::empty, farm -> farm.bidQuantity(23));
        Twins.refuses(Check.ELEMENT, Farms::busy, farm -> farm.bidQuantity(0));
        Twins.refuses(Check.ELEMENT, Farms::busy, farm -> farm.bidQuantity(23));
    }

    // ---- the order of the bids

    @Sentence("Returns a bid in the order of prices, the highest price first.")
    static void promise39bidByPrice() {
        Twins.reads(20, Farms::busy, farm -> farm.bidByPrice(0));
        Twins.reads(1, Farms::busy, farm -> farm.bidByPrice(1));
        // the price counts more than the quantity and the hour
        order(new int[][] {{0, 1, 500}, {23, 50, 1}, {7, 25, 250}, {6, 26, 1}, {8, 24, 500}}, 23, 6, 7, 8, 0);
    }

    @Sentence("Of bids with the same price, the one with the greater quantity comes first, then the one for the earlier "
            + "hour of the day.")
    static void promise39bidsOfTheSamePrice() {
        order(new int[][] {{0, 9, 100}, {5, 9, 101}, {23, 9, 500}, {7, 9, 1}}, 23, 5, 0, 7);
        order(new int[][] {{22, 9, 100}, {5, 9, 100}, {23, 9, 100}, {0, 9, 100}}, 0, 5, 22, 23);
        order(new int[][] {{2, 9, 100}, {1, 9, 100}, {4, 9, 200}, {3, 10, 1}}, 3, 4, 1, 2);
    }

    @Sentence("- `position`: the position, from 0")
    static void promise39positionIsFromZero() {
        WindFarmDispatcher farm = Farms.empty();
        int[] due = new int[24];
        for (int hour = 0; hour < 24; hour++) {
            farm.placeBid(hour, 1 + hour * 5 % 24, 1);
            due[23 - hour * 5 % 24] = hour;
        }
        for (int at = 0; at < 24; at++) {
            int position = at;
            Check.answers(due[at], () -> farm.bidByPrice(position));
        }
        Check.refuses(Check.ELEMENT, () -> farm.bidByPrice(24));
        Check.refuses(Check.ELEMENT, () -> farm.bidByPrice(-1));
    }

    @Sentence("Returns the hour of the day of the bid.")
    static void promise39bidByPriceReturnsTheHour() {
        for (int hour = 0; hour < 24; hour++) {
            WindFarmDispatcher farm = Farms.empty();
            farm.placeBid(hour, 50, 500);
            int due = hour;
            Check.answers(due, () -> farm.bidByPrice(0));
        }
    }

    @Sentence("Throws `NoSuchElementException` if there is no such position")
    static void promise39bidByPriceNeedsAPosition() {
        Twins.refuses(Check.ELEMENT, Farms::empty, farm -> farm.bidByPrice(0));
        Twins.refuseEach(Check.ELEMENT, Farms::busy, WindFarmDispatcher::bidByPrice,
                2, -1, 3, 20, 23, 24, Integer.MIN_VALUE, Integer.MAX_VALUE);
    }

    /** The hours of bids for these hours, with these prices and quantities, in their order. */
    private static void order(int[][] bids, int... due) {
        WindFarmDispatcher farm = Farms.empty();
        for (int[] bid : bids) {
            farm.placeBid(bid[0], bid[1], bid[2]);
        }
        for (int at = 0; at < due.length; at++) {
            int position = at;
            Check.answers(due[at], () -> farm.bidByPrice(position));
        }
        Check.refuses(Check.ELEMENT, () -> farm.bidByPrice(due.length));
    }
}
