/**
 * Each range of an argument, and each number of something that there is or isn't: the first and the last value are
 * allowed, those next to them are refused, and a refused call changes nothing.
 */
public final class RangeTest {
    public static void main(String[] args) {
        taxes();
        makersAndProducts();
        prices();
        buying();
        saleNumbers();
        noSales();
        subscribing();
        subscriptionNumbers();
        noSubscriptions();
        payouts();
        sums();
        days();
        Tests.end();
    }

    private static void taxes() {
        Twins.range("promise 2: setTax, 'land: 0 to 4'", 0, 4, Twins.BAD_ARGUMENT, Pasts::busy,
                (x, land) -> x.setTax(land, 12, true));
        Twins.range("promise 2: setTax, 'rate: 0 to 30'", 0, 30, Twins.BAD_ARGUMENT, Pasts::busy,
                (x, rate) -> x.setTax(4, rate, true));
    }

    private static void makersAndProducts() {
        Twins.range("promise 3: addMaker, 'threshold: 0 to 1000000'", 0, 1000000, Twins.BAD_ARGUMENT, Pasts::busy,
                ShopPaymaster::addMaker);
        Twins.range("promise 4: addProduct, 'no such maker' of 2", 0, 1, Twins.NO_SUCH, Pasts::busy,
                (x, maker) -> x.addProduct(maker, 1));
        Twins.range("promise 4: addProduct, 'price: 0 to 100000'", 0, 100000, Twins.BAD_ARGUMENT, Pasts::busy,
                (x, price) -> x.addProduct(1, price));
        Twins.refused("promise 4: addProduct, no maker yet", Twins.NO_SUCH, ShopPaymaster::new,
                x -> x.addProduct(0, 1));
    }

    private static void prices() {
        Twins.range("promise 5: setPrice, 'no such product' of 3", 0, 2, Twins.NO_SUCH, Pasts::busy,
                (x, product) -> x.setPrice(product, 0, 1));
        Twins.range("promise 5: setPrice, 'land: 0 to 4'", 0, 4, Twins.BAD_ARGUMENT, Pasts::busy,
                (x, land) -> x.setPrice(1, land, 1));
        Twins.range("promise 5: setPrice, 'price: 0 to 100000'", 0, 100000, Twins.BAD_ARGUMENT, Pasts::busy,
                (x, price) -> x.setPrice(1, 4, price));
        Twins.refused("promise 5: setPrice, no product yet", Twins.NO_SUCH, ShopPaymaster::new,
                x -> x.setPrice(0, 0, 1));
    }

    private static void buying() {
        Twins.range("promise 6: buy, 'no such product' of 3", 0, 2, Twins.NO_SUCH, Pasts::busy,
                (x, product) -> x.buy(product, 0));
        Twins.range("promise 6: buy, 'land: 0 to 4'", 0, 4, Twins.BAD_ARGUMENT, Pasts::busy,
                (x, land) -> x.buy(1, land));
        Twins.refused("promise 6: buy, no product yet", Twins.NO_SUCH, ShopPaymaster::new, x -> x.buy(0, 0));
    }

    private static void saleNumbers() {
        Twins.range("promise 7: refund, 'no such sale' of 2", 0, 1, Twins.NO_SUCH, Pasts::running,
                ShopPaymaster::refund);
        Twins.outside("promise 7: refund, 'no such sale' of 9", 0, 8, Twins.NO_SUCH, Pasts::busy,
                ShopPaymaster::refund);
        Twins.range("promise 9: paid, 'no such sale' of 9", 0, 8, Twins.NO_SUCH, Pasts::busy, ShopPaymaster::paid);
        Twins.range("promise 10: tax, 'no such sale' of 9", 0, 8, Twins.NO_SUCH, Pasts::busy, ShopPaymaster::tax);
        Twins.range("promise 11: shopShare, 'no such sale' of 9", 0, 8, Twins.NO_SUCH, Pasts::busy,
                ShopPaymaster::shopShare);
        Twins.range("promise 12: makerPart, 'no such sale' of 9", 0, 8, Twins.NO_SUCH, Pasts::busy,
                ShopPaymaster::makerPart);
    }

    private static void noSales() {
        Twins.refused("promise 7: refund, no sale yet", Twins.NO_SUCH, Pasts::begun, x -> x.refund(0));
        Twins.refused("promise 9: paid, no sale yet", Twins.NO_SUCH, Pasts::begun, x -> x.paid(0));
        Twins.refused("promise 10: tax, no sale yet", Twins.NO_SUCH, Pasts::begun, x -> x.tax(0));
        Twins.refused("promise 11: shopShare, no sale yet", Twins.NO_SUCH, Pasts::begun, x -> x.shopShare(0));
        Twins.refused("promise 12: makerPart, no sale yet", Twins.NO_SUCH, Pasts::begun, x -> x.makerPart(0));
    }

    private static void subscribing() {
        Twins.range("promise 13: subscribe, 'no such product' of 3", 0, 2, Twins.NO_SUCH, Pasts::busy,
                (x, product) -> x.subscribe(product, 0, 1, true));
        Twins.range("promise 13: subscribe, 'land: 0 to 4'", 0, 4, Twins.BAD_ARGUMENT, Pasts::busy,
                (x, land) -> x.subscribe(0, land, 1, true));
        Twins.range("promise 13: subscribe, 'days: 1 to 60'", 1, 60, Twins.BAD_ARGUMENT, Pasts::busy,
                (x, days) -> x.subscribe(0, 0, days, true));
        Twins.refused("promise 13: subscribe, no product yet", Twins.NO_SUCH, ShopPaymaster::new,
                x -> x.subscribe(0, 0, 1, true));
    }

    private static void subscriptionNumbers() {
        Twins.range("promise 14: move, 'no such subscription' of 4", 0, 3, Twins.NO_SUCH, Pasts::running,
                (x, subscription) -> x.move(subscription, 2));
        Twins.range("promise 14: move, 'no such product' of 3", 0, 2, Twins.NO_SUCH, Pasts::running,
                (x, product) -> x.move(3, product));
        Twins.range("promise 15: setFailing, 'no such subscription' of 4", 0, 3, Twins.NO_SUCH, Pasts::running,
                (x, subscription) -> x.setFailing(subscription, true));
        Twins.range("promise 16: cancel, 'no such subscription' of 4", 0, 3, Twins.NO_SUCH, Pasts::running,
                ShopPaymaster::cancel);
        Twins.range("promise 17: payments, 'no such subscription' of 4", 0, 3, Twins.NO_SUCH, Pasts::busy,
                ShopPaymaster::payments);
        Twins.range("promise 18: next, 'no such subscription' of 4", 0, 3, Twins.NO_SUCH, Pasts::busy,
                ShopPaymaster::next);
    }

    private static void noSubscriptions() {
        Twins.refused("promise 14: move, no subscription yet", Twins.NO_SUCH, Pasts::begun, x -> x.move(0, 1));
        Twins.refused("promise 15: setFailing, no subscription yet", Twins.NO_SUCH, Pasts::begun,
                x -> x.setFailing(0, true));
        Twins.refused("promise 16: cancel, no subscription yet", Twins.NO_SUCH, Pasts::begun, x -> x.cancel(0));
        Twins.refused("promise 17: payments, no subscription yet", Twins.NO_SUCH, Pasts::begun, x -> x.payments(0));
        Twins.refused("promise 18: next, no subscription yet", Twins.NO_SUCH, Pasts::begun, x -> x.next(0));
    }

    private static void payouts() {
        Twins.range("promise 19: payout, 'no such maker' of 2", 0, 1, Twins.NO_SUCH, Pasts::busy,
                (x, maker) -> x.payout(maker, 0));
        Twins.range("promise 19: payout, 'month: 0 to' 4 closed months 'minus 1'", 0, 3, Twins.BAD_ARGUMENT,
                Pasts::busy, (x, month) -> x.payout(1, month));
        Twins.range("promise 19: payout, 'month: 0 to' all 120 closed months 'minus 1'", 0, 119, Twins.BAD_ARGUMENT,
                Pasts::theEnd, (x, month) -> x.payout(0, month));
        Twins.outside("promise 19: payout, 'month' when none is closed", 0, -1, Twins.BAD_ARGUMENT, Pasts::begun,
                (x, month) -> x.payout(1, month));
        Twins.refused("promise 19: payout, no maker yet", Twins.NO_SUCH, RangeTest::aMonthWithoutMakers,
                x -> x.payout(0, 0));
    }

    private static ShopPaymaster aMonthWithoutMakers() {
        ShopPaymaster x = new ShopPaymaster();
        x.pass(30);
        return x;
    }

    private static void sums() {
        Twins.range("promise 20: carried, 'no such maker' of 2", 0, 1, Twins.NO_SUCH, Pasts::busy,
                ShopPaymaster::carried);
        Twins.range("promise 21: balance, 'no such maker' of 2", 0, 1, Twins.NO_SUCH, Pasts::busy,
                ShopPaymaster::balance);
        Twins.refused("promise 20: carried, no maker yet", Twins.NO_SUCH, ShopPaymaster::new, x -> x.carried(0));
        Twins.refused("promise 21: balance, no maker yet", Twins.NO_SUCH, ShopPaymaster::new, x -> x.balance(0));
        Twins.range("promise 22: heldTax, 'land: 0 to 4'", 0, 4, Twins.BAD_ARGUMENT, Pasts::busy,
                ShopPaymaster::heldTax);
    }

    private static void days() {
        Twins.range("promise 25: pass, 'days: 1 to 400'", 1, 400, Twins.BAD_ARGUMENT, Pasts::busy,
                ShopPaymaster::pass);
        Twins.outside("promise 25: pass, 'days: 1 to 400' on the last day", 1, 400, Twins.BAD_ARGUMENT, Pasts::theEnd,
                ShopPaymaster::pass);
    }
}
