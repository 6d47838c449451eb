import java.util.NoSuchElementException;

/** Promises 30 to 39: curtailment and bids. */
final class BidTests {
    private static final Class<? extends RuntimeException> OUTSIDE = IndexOutOfBoundsException.class;
    private static final Class<? extends RuntimeException> WRONG = IllegalArgumentException.class;
    private static final Class<? extends RuntimeException> NONE = NoSuchElementException.class;
    private static final int[] NO_HOURS = {-1, 24, 25, Integer.MIN_VALUE, Integer.MAX_VALUE};

    static void promise30setGridLimit() {
        WindFarmDispatcher farm = Farms.column();
        Farms.isChange(farm, 999, () -> farm.setGridLimit(100));
        Check.answers(100, () -> farm.setGridLimit(100));
        Check.answers(100, () -> farm.setGridLimit(0));
        Check.answers(0, () -> farm.setGridLimit(999));
        Check.answers(185, farm::totalOutput);
        for (int limit : new int[] {-1, 1000, Integer.MIN_VALUE, Integer.MAX_VALUE}) {
            Farms.refusesAndKeeps(farm, WRONG, () -> farm.setGridLimit(limit));
        }
    }

    static void promise31gridLimit() {
        WindFarmDispatcher farm = Farms.empty();
        Check.answers(999, farm::gridLimit);
        farm.setGridLimit(0);
        Check.answers(0, farm::gridLimit);
        farm.setGridLimit(17);
        Check.answers(17, farm::gridLimit);
    }

    static void promise32dispatch() {
        WindFarmDispatcher farm = Farms.column();
        farm.setGridLimit(185);
        Farms.isChange(farm, 0, farm::dispatch);
        farm.setGridLimit(184);
        Farms.isChange(farm, 1, farm::dispatch);
        Check.answers(89, () -> farm.limitOf(0));
        Check.answers(0, farm::dispatch);
        farm.setGridLimit(90);
        // the excess of 94 is greater than the output of 89; the other 5 come from the next greatest
        Check.answers(2, farm::dispatch);
        Check.answers(0, () -> farm.limitOf(0));
        Check.answers(30, () -> farm.limitOf(1));
        Check.answers(90, farm::totalOutput);
        farm.setGridLimit(89);
        // three turbines have an output of 30
        Check.answers(1, farm::dispatch);
        Check.answers(29, () -> farm.limitOf(1));
        Check.refuses(NONE, () -> farm.limitOf(2));
        farm.setGridLimit(0);
        Check.answers(3, farm::dispatch);
        Check.answers(0, farm::totalOutput);
        Check.answers(0, () -> farm.limitOf(3));
        Check.answers(0, farm::dispatch);
    }

    static void promise32dispatchOfAFullFarm() {
        WindFarmDispatcher farm = Farms.full(9);
        farm.setWind('N', 12);
        farm.curtail(0, 80);
        Check.answers(1, farm::dispatch);
        Check.answers(19, () -> farm.limitOf(1));
        Check.answers(80, () -> farm.limitOf(0));
        Check.answers(999, farm::totalOutput);
        farm.setGridLimit(0);
        Check.answers(12, farm::dispatch);
        Check.answers(0, farm::totalOutput);
        Check.answers(0, Farms.empty()::dispatch);
    }

    static void promise33releaseAll() {
        WindFarmDispatcher farm = Farms.column();
        Farms.isChange(farm, 0, farm::releaseAll);
        farm.curtail(0, 0);
        farm.curtail(2, 90);
        farm.curtail(3, 5);
        farm.fail(3);
        Farms.isChange(farm, 2, farm::releaseAll);
        Check.refuses(NONE, () -> farm.limitOf(0));
        Check.refuses(NONE, () -> farm.limitOf(2));
        Check.answers(0, farm::releaseAll);
        Check.answers(0, Farms.empty()::releaseAll);
    }

    static void promise34placeBid() {
        WindFarmDispatcher farm = Farms.empty();
        Farms.isChange(farm, 1, () -> farm.placeBid(0, 1, 1));
        Check.answers(2, () -> farm.placeBid(23, 50, 500));
        Check.answers(50, () -> farm.bidPrice(23));
        Check.answers(500, () -> farm.bidQuantity(23));
        Farms.rejectsAndKeeps(farm, WindFarmDispatcher.BID_EXISTS, 50, () -> farm.placeBid(23, 2, 3));
        Farms.rejectsAndKeeps(farm, WindFarmDispatcher.BID_EXISTS, 1, () -> farm.placeBid(0, 2, 3));
        for (int price : new int[] {0, 51, -1, Integer.MIN_VALUE, Integer.MAX_VALUE}) {
            Farms.refusesAndKeeps(farm, WRONG, () -> farm.placeBid(1, price, 1));
            Farms.refusesAndKeeps(farm, WRONG, () -> farm.placeBid(0, price, 1));
        }
        for (int quantity : new int[] {0, 501, -1, Integer.MIN_VALUE, Integer.MAX_VALUE}) {
            Farms.refusesAndKeeps(farm, WRONG, () -> farm.placeBid(1, 1, quantity));
            Farms.refusesAndKeeps(farm, WRONG, () -> farm.placeBid(0, 1, quantity));
        }
        for (int hour : NO_HOURS) {
            Farms.refusesAndKeeps(farm, OUTSIDE, () -> farm.placeBid(hour, 1, 1));
            Farms.refusesAndKeeps(farm, OUTSIDE, () -> farm.placeBid(hour, 0, 0));
        }
        for (int hour = 1; hour < 23; hour++) {
            int next = hour;
            Check.answers(hour + 2, () -> farm.placeBid(next, 3, 3));
        }
    }

    static void promise35withdrawBid() {
        WindFarmDispatcher farm = Farms.empty();
        Farms.rejectsAndKeeps(farm, WindFarmDispatcher.NO_BID, 0, () -> farm.withdrawBid(0));
        farm.placeBid(0, 5, 77);
        farm.placeBid(23, 6, 500);
        Farms.rejectsAndKeeps(farm, WindFarmDispatcher.NO_BID, 2, () -> farm.withdrawBid(1));
        Farms.isChange(farm, 77, () -> farm.withdrawBid(0));
        Farms.rejectsAndKeeps(farm, WindFarmDispatcher.NO_BID, 1, () -> farm.withdrawBid(0));
        Check.answers(500, () -> farm.withdrawBid(23));
        Check.answers(1, () -> farm.placeBid(0, 1, 1));
        for (int hour : NO_HOURS) {
            Farms.refusesAndKeeps(farm, OUTSIDE, () -> farm.withdrawBid(hour));
        }
    }

    static void promise36hasBid() {
        WindFarmDispatcher farm = Farms.empty();
        Check.answers(false, () -> farm.hasBid(23));
        farm.placeBid(23, 1, 1);
        Check.answers(true, () -> farm.hasBid(23));
        Check.answers(false, () -> farm.hasBid(22));
        farm.withdrawBid(23);
        Check.answers(false, () -> farm.hasBid(23));
        for (int hour : NO_HOURS) {
            Farms.refusesAndKeeps(farm, OUTSIDE, () -> farm.hasBid(hour));
        }
    }

    static void promise37bidPrice() {
        WindFarmDispatcher farm = Farms.empty();
        Farms.refusesAndKeeps(farm, NONE, () -> farm.bidPrice(0));
        farm.placeBid(0, 49, 2);
        Check.answers(49, () -> farm.bidPrice(0));
        farm.withdrawBid(0);
        Farms.refusesAndKeeps(farm, NONE, () -> farm.bidPrice(0));
        farm.placeBid(0, 7, 2);
        Check.answers(7, () -> farm.bidPrice(0));
        for (int hour : NO_HOURS) {
            Farms.refusesAndKeeps(farm, OUTSIDE, () -> farm.bidPrice(hour));
        }
    }

    static void promise38bidQuantity() {
        WindFarmDispatcher farm = Farms.empty();
        Farms.refusesAndKeeps(farm, NONE, () -> farm.bidQuantity(23));
        farm.placeBid(23, 49, 499);
        Check.answers(499, () -> farm.bidQuantity(23));
        farm.withdrawBid(23);
        Farms.refusesAndKeeps(farm, NONE, () -> farm.bidQuantity(23));
        for (int hour : NO_HOURS) {
            Farms.refusesAndKeeps(farm, OUTSIDE, () -> farm.bidQuantity(hour));
        }
    }

    static void promise39bidByPrice() {
        WindFarmDispatcher farm = Farms.empty();
        Farms.refusesAndKeeps(farm, NONE, () -> farm.bidByPrice(0));
        farm.placeBid(5, 10, 100);
        farm.placeBid(3, 10, 100);
        farm.placeBid(9, 10, 101);
        farm.placeBid(23, 50, 1);
        farm.placeBid(0, 1, 500);
        int[] due = {23, 9, 3, 5, 0};
        for (int at = 0; at < due.length; at++) {
            int position = at;
            Check.answers(due[at], () -> farm.bidByPrice(position));
        }
        for (int position : new int[] {5, 6, -1, 24, Integer.MIN_VALUE, Integer.MAX_VALUE}) {
            Farms.refusesAndKeeps(farm, NONE, () -> farm.bidByPrice(position));
        }
        farm.withdrawBid(9);
        Check.answers(3, () -> farm.bidByPrice(1));
        farm.withdrawBid(0);
        farm.placeBid(0, 50, 1);
        Check.answers(0, () -> farm.bidByPrice(0));
        Check.answers(23, () -> farm.bidByPrice(1));
    }
}
