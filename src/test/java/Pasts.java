/** Objects with a past, in which calls are refused: all that they hold shows in Aftermath. */
final class Pasts {
    private Pasts() {
    }

    /** Two makers, products 0 and 1 of maker 0, product 2 of maker 1; no day has passed, nothing is sold. */
    static ShopPaymaster begun() {
        ShopPaymaster x = new ShopPaymaster();
        x.setTax(0, 20, true);
        x.setTax(1, 10, false);
        x.setTax(4, 30, false);
        x.addMaker(0);
        x.addMaker(50000);
        x.addProduct(0, 1001);
        x.addProduct(0, 2003);
        x.addProduct(1, 3005);
        x.setPrice(1, 4, 999);
        return x;
    }

    /**
     * Day 122, 9 sales, 4 subscriptions. Sale 0 is too old for a refund, sale 1 is refunded, sale 8 is of today.
     * Subscription 0 to product 0 is paid, 1 to product 0 is cancelled, 2 to product 2 has ended by failing,
     * 3 to product 1 is tried again tomorrow.
     */
    static ShopPaymaster busy() {
        ShopPaymaster x = begun();
        x.buy(0, 0);
        x.buy(0, 1);
        x.refund(1);
        x.subscribe(0, 0, 10, true);
        x.subscribe(0, 2, 1, false);
        x.cancel(1);
        x.subscribe(2, 3, 5, false);
        x.setFailing(2, true);
        x.subscribe(1, 4, 60, false);
        x.pass(119);
        x.setFailing(3, true);
        x.pass(3);
        x.buy(2, 1);
        return x;
    }

    /** Four running subscriptions to product 1, and three products of one maker. */
    static ShopPaymaster running() {
        ShopPaymaster x = Shops.of(500, 1001, 2003, 3005);
        for (int subscription = 0; subscription < 4; subscription++) {
            x.subscribe(1, subscription, 1 + 10 * subscription, subscription % 2 == 0);
        }
        x.pass(15);
        return x;
    }

    /** 6 makers, 20 products, 40 subscriptions: nothing more can be added. Day 31. */
    static ShopPaymaster full() {
        ShopPaymaster x = new ShopPaymaster();
        for (int maker = 0; maker < 6; maker++) {
            x.addMaker(maker * 1000);
        }
        for (int product = 0; product < 20; product++) {
            x.addProduct(product % 6, 500 + product);
        }
        for (int subscription = 0; subscription < 40; subscription++) {
            x.subscribe(subscription % 20, subscription % 5, 1 + subscription, subscription % 2 == 0);
        }
        x.cancel(7);
        x.setTax(1, 10, false);
        x.buy(0, 0);
        x.pass(31);
        return x;
    }

    /** The day before the last one; a payment falls due on the last one. */
    static ShopPaymaster nearTheEnd() {
        ShopPaymaster x = begun();
        x.subscribe(0, 0, 30, true);
        Shops.passTo(x, 3599);
        return x;
    }

    static ShopPaymaster theEnd() {
        ShopPaymaster x = nearTheEnd();
        x.pass(1);
        return x;
    }

    /** Sale 8 of a busy one, of today, is refunded. */
    static ShopPaymaster refundedToday() {
        ShopPaymaster x = busy();
        x.refund(8);
        return x;
    }

    /** Sale 9, behind those of a busy one, is of nothing and refunded. */
    static ShopPaymaster nothingRefunded() {
        ShopPaymaster x = busy();
        x.setPrice(0, 0, 0);
        x.refund(x.buy(0, 0));
        return x;
    }

    /** Subscription 0 of a busy one is moved to product 1. */
    static ShopPaymaster moved() {
        ShopPaymaster x = busy();
        x.move(0, 1);
        return x;
    }

    /** A busy one with a second product of maker 1, product 3. */
    static ShopPaymaster withTwoOfMaker1() {
        ShopPaymaster x = busy();
        x.addProduct(1, 70);
        return x;
    }
}
