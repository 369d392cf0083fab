/**
 * What is refused for what the object holds, and 'if several apply, the one that it lists first is thrown': a test
 * for each reason and for each two that can apply at once. A refused call changes nothing.
 */
public final class RefusalTest {
    public static void main(String[] args) {
        fullThings();
        shopOrders();
        saleOrders();
        refundStates();
        subscribeOrders();
        moveArguments();
        moveOrders();
        endedSubscriptions();
        payoutOrders();
        passStates();
        Tests.end();
    }

    private static void fullThings() {
        Twins.refused("promise 3: 'if there are 6'", Twins.BAD_STATE, Pasts::full, x -> x.addMaker(0));
        Twins.refused("promise 3: 'if there are 6', the highest threshold", Twins.BAD_STATE, Pasts::full,
                x -> x.addMaker(1000000));
        Twins.refused("promise 4: 'if there are 20'", Twins.BAD_STATE, Pasts::full, x -> x.addProduct(0, 0));
        Twins.refused("promise 4: 'if there are 20', the last values", Twins.BAD_STATE, Pasts::full,
                x -> x.addProduct(5, 100000));
        Twins.refused("promise 13: 'if there are 40'", Twins.BAD_STATE, Pasts::full,
                x -> x.subscribe(0, 0, 1, true));
        Twins.refused("promise 13: 'if there are 40', the last values", Twins.BAD_STATE, Pasts::full,
                x -> x.subscribe(19, 4, 60, false));
    }

    private static void shopOrders() {
        Twins.refused("promise 2: land and rate", Twins.BAD_ARGUMENT, Pasts::busy, x -> x.setTax(5, 31, true));
        Twins.refused("promise 3: the threshold before 'there are 6'", Twins.BAD_ARGUMENT, Pasts::full,
                x -> x.addMaker(1000001));
        Twins.refused("promise 4: the maker before the price", Twins.NO_SUCH, Pasts::busy,
                x -> x.addProduct(2, 100001));
        Twins.refused("promise 4: the maker before 'there are 20'", Twins.NO_SUCH, Pasts::full,
                x -> x.addProduct(6, 1));
        Twins.refused("promise 4: the maker before both", Twins.NO_SUCH, Pasts::full, x -> x.addProduct(-1, -1));
        Twins.refused("promise 4: the price before 'there are 20'", Twins.BAD_ARGUMENT, Pasts::full,
                x -> x.addProduct(5, 100001));
        Twins.refused("promise 5: the product before the land", Twins.NO_SUCH, Pasts::busy,
                x -> x.setPrice(3, 5, 1));
        Twins.refused("promise 5: the product before the price", Twins.NO_SUCH, Pasts::busy,
                x -> x.setPrice(3, 0, -1));
        Twins.refused("promise 5: the product before both", Twins.NO_SUCH, Pasts::busy,
                x -> x.setPrice(-1, -1, 100001));
        Twins.refused("promise 5: land and price", Twins.BAD_ARGUMENT, Pasts::busy, x -> x.setPrice(1, 5, 100001));
    }

    private static void saleOrders() {
        Twins.refused("promise 6: the product before the land", Twins.NO_SUCH, Pasts::busy, x -> x.buy(3, 5));
        Twins.refused("promise 6: the product before the land, below 0", Twins.NO_SUCH, Pasts::busy,
                x -> x.buy(-1, -1));
    }

    private static void refundStates() {
        Twins.refused("promise 7: 'if it was refunded', today", Twins.BAD_STATE, Pasts::refundedToday,
                x -> x.refund(8));
        Twins.refused("promise 7: 'if it was refunded', a sale of nothing", Twins.BAD_STATE, Pasts::nothingRefunded,
                x -> x.refund(9));
        Twins.refused("promise 7: 'more than 3 months ago'", Twins.BAD_STATE, Pasts::busy, x -> x.refund(0));
        Twins.refused("promise 7: 'more than 3 months ago', a payment", Twins.BAD_STATE, Pasts::busy,
                x -> x.refund(2));
        Twins.refused("promise 7: refunded and more than 3 months ago", Twins.BAD_STATE, Pasts::busy,
                x -> x.refund(1));
    }

    private static void subscribeOrders() {
        Twins.refused("promise 13: the product before the land", Twins.NO_SUCH, Pasts::busy,
                x -> x.subscribe(3, 5, 1, true));
        Twins.refused("promise 13: the product before the days", Twins.NO_SUCH, Pasts::busy,
                x -> x.subscribe(3, 0, 61, true));
        Twins.refused("promise 13: the product before 'there are 40'", Twins.NO_SUCH, Pasts::full,
                x -> x.subscribe(20, 0, 1, true));
        Twins.refused("promise 13: the product before all", Twins.NO_SUCH, Pasts::full,
                x -> x.subscribe(-1, -1, 0, true));
        Twins.refused("promise 13: land and days", Twins.BAD_ARGUMENT, Pasts::busy,
                x -> x.subscribe(0, 5, 0, true));
        Twins.refused("promise 13: the land before 'there are 40'", Twins.BAD_ARGUMENT, Pasts::full,
                x -> x.subscribe(0, 5, 1, true));
        Twins.refused("promise 13: the days before 'there are 40'", Twins.BAD_ARGUMENT, Pasts::full,
                x -> x.subscribe(0, 0, 61, true));
    }

    private static void moveArguments() {
        Twins.refused("promise 14: 'if the product is the same'", Twins.BAD_ARGUMENT, Pasts::busy,
                x -> x.move(0, 0));
        Twins.refused("promise 14: 'if the product is the same', tried again", Twins.BAD_ARGUMENT, Pasts::busy,
                x -> x.move(3, 1));
        Twins.refused("promise 14: 'if the product is the same', after a move", Twins.BAD_ARGUMENT, Pasts::moved,
                x -> x.move(0, 1));
        Twins.refused("promise 14: 'or of another maker'", Twins.BAD_ARGUMENT, Pasts::busy, x -> x.move(0, 2));
    }

    private static void moveOrders() {
        Twins.refused("promise 14: no such subscription and product", Twins.NO_SUCH, Pasts::busy,
                x -> x.move(4, 3));
        Twins.refused("promise 14: the subscription before the maker", Twins.NO_SUCH, Pasts::busy,
                x -> x.move(4, 2));
        Twins.refused("promise 14: no such product before 'it has ended'", Twins.NO_SUCH, Pasts::busy,
                x -> x.move(1, 3));
        Twins.refused("promise 14: the same product before 'it has ended'", Twins.BAD_ARGUMENT, Pasts::busy,
                x -> x.move(1, 0));
        Twins.refused("promise 14: another maker before 'it has ended'", Twins.BAD_ARGUMENT, Pasts::busy,
                x -> x.move(1, 2));
        Twins.refused("promise 14: another maker before 'it has ended' by failing", Twins.BAD_ARGUMENT, Pasts::busy,
                x -> x.move(2, 0));
    }

    private static void endedSubscriptions() {
        Twins.refused("promise 14: 'if it has ended', cancelled", Twins.BAD_STATE, Pasts::busy, x -> x.move(1, 1));
        Twins.refused("promise 14: 'if it has ended', by failing", Twins.BAD_STATE, Pasts::withTwoOfMaker1,
                x -> x.move(2, 3));
        Twins.refused("promise 15: 'if it has ended', cancelled", Twins.BAD_STATE, Pasts::busy,
                x -> x.setFailing(1, true));
        Twins.refused("promise 15: 'if it has ended', told what it was", Twins.BAD_STATE, Pasts::busy,
                x -> x.setFailing(1, false));
        Twins.refused("promise 15: 'if it has ended', by failing", Twins.BAD_STATE, Pasts::busy,
                x -> x.setFailing(2, false));
        Twins.refused("promise 16: 'if it has ended', cancelled", Twins.BAD_STATE, Pasts::busy, x -> x.cancel(1));
        Twins.refused("promise 16: 'if it has ended', by failing", Twins.BAD_STATE, Pasts::busy, x -> x.cancel(2));
    }

    private static void payoutOrders() {
        Twins.refused("promise 19: the maker before the month", Twins.NO_SUCH, Pasts::busy, x -> x.payout(2, 4));
        Twins.refused("promise 19: the maker before the month, none closed", Twins.NO_SUCH, ShopPaymaster::new,
                x -> x.payout(0, 0));
    }

    private static void passStates() {
        for (int days : new int[] {2, 3, 31, 400}) {
            Twins.refused("promise 25: 'the day would be above 3600' by " + days + " days on day 3599",
                    Twins.BAD_STATE, Pasts::nearTheEnd, x -> x.pass(days));
        }
        for (int days : new int[] {1, 400}) {
            Twins.refused("promise 25: 'the day would be above 3600' by " + days + " days on day 3600",
                    Twins.BAD_STATE, Pasts::theEnd, x -> x.pass(days));
        }
        Twins.refused("promise 25: the days before 'the day would be above 3600'", Twins.BAD_ARGUMENT,
                Pasts::nearTheEnd, x -> x.pass(401));
    }
}
