/** Promises 1 to 5, and 'Shop' of the terms: the boundary cases, a test for each sentence. */
public final class ShopEdgesTest {
    public static void main(String[] args) {
        newObject();
        taxes();
        makers();
        products();
        prices();
        Tests.end();
    }

    private static void newObject() {
        Tests.test("promise 1: 'No makers'", ShopEdgesTest::noMakers);
        Tests.test("promise 1: 'No makers, products'", ShopEdgesTest::noProducts);
        Tests.test("promise 1: 'and sales'", ShopEdgesTest::noSales);
        Tests.test("promise 1: no subscriptions", ShopEdgesTest::noSubscriptions);
        Tests.test("promise 1: 'it is the day 0'", () -> Tests.due("day", new ShopPaymaster().day(), 0));
        Tests.test("promise 1: all sums are 0", ShopEdgesTest::noSums);
        Tests.test("promise 1: 'numbered from 0'", ShopEdgesTest::numberedFromZero);
    }

    private static void noMakers() {
        for (int maker : new int[] {-1, 0, 1}) {
            ShopPaymaster x = new ShopPaymaster();
            Tests.noSuch(x, "addProduct", () -> x.addProduct(maker, 1));
            Tests.noSuch(x, "carried", () -> x.carried(maker));
            Tests.noSuch(x, "balance", () -> x.balance(maker));
            Tests.noSuch(x, "payout", () -> x.payout(maker, 0));
        }
    }

    private static void noProducts() {
        for (int product : new int[] {-1, 0, 1}) {
            ShopPaymaster x = new ShopPaymaster();
            x.addMaker(0);
            Tests.noSuch(x, "setPrice", () -> x.setPrice(product, 0, 1));
            Tests.noSuch(x, "buy", () -> x.buy(product, 0));
            Tests.noSuch(x, "subscribe", () -> x.subscribe(product, 0, 1, true));
        }
    }

    private static void noSales() {
        for (int sale : new int[] {-1, 0, 1}) {
            ShopPaymaster x = Shops.of(0, 1000);
            Tests.due("sales", x.sales(), 0);
            Tests.noSuch(x, "refund", () -> x.refund(sale));
            Tests.noSuch(x, "paid", () -> x.paid(sale));
            Tests.noSuch(x, "tax", () -> x.tax(sale));
            Tests.noSuch(x, "shopShare", () -> x.shopShare(sale));
            Tests.noSuch(x, "makerPart", () -> x.makerPart(sale));
        }
    }

    private static void noSubscriptions() {
        for (int subscription : new int[] {-1, 0, 1}) {
            ShopPaymaster x = Shops.of(0, 1000, 2000);
            Tests.noSuch(x, "move", () -> x.move(subscription, 1));
            Tests.noSuch(x, "setFailing", () -> x.setFailing(subscription, true));
            Tests.noSuch(x, "cancel", () -> x.cancel(subscription));
            Tests.noSuch(x, "payments", () -> x.payments(subscription));
            Tests.noSuch(x, "next", () -> x.next(subscription));
        }
    }

    private static void noSums() {
        ShopPaymaster x = new ShopPaymaster();
        Tests.due("shop", x.shop(), 0);
        Tests.due("takings", x.takings(), 0);
        for (int land = 0; land < 5; land++) {
            Tests.due("heldTax " + land, x.heldTax(land), 0);
        }
        Tests.due("payments of a day", x.pass(1), 0);
    }

    private static void numberedFromZero() {
        ShopPaymaster x = new ShopPaymaster();
        Tests.due("maker", x.addMaker(0), 0);
        Tests.due("product", x.addProduct(0, 1), 0);
        Tests.due("sale", x.buy(0, 0), 0);
        Tests.due("subscription", x.subscribe(0, 0, 1, false), 0);
    }

    private static void taxes() {
        Tests.test("promise 2: 'a tax rate in percent, 0 at first', in each land", ShopEdgesTest::rateAtFirst);
        Tests.test("promise 2: 'land: 0 to 4', the first one alone", () -> taxedAlone(0));
        Tests.test("promise 2: 'land: 0 to 4', the last one alone", () -> taxedAlone(4));
        Tests.test("promise 2: 'rate: 0 to 30', the last", () -> rate(30, "1300 300 150 850"));
        Tests.test("promise 2: 'rate: 0 to 30', the first above 0", () -> rate(1, "1300 12 193 1095"));
        Tests.test("promise 2: 'rate: 0 to 30', back to the first", () -> rate(0, "1300 0 195 1105"));
        Tests.test("promise 2: 'Returns the rate before', told twice", ShopEdgesTest::rateTwice);
        Tests.test("promise 2: 'from today on', sales of today ahead of it stay", ShopEdgesTest::taxLaterToday);
        Tests.test("promise 2: 'whether the shop holds it back' alone changes", ShopEdgesTest::heldAlone);
    }

    private static void rateAtFirst() {
        for (int land = 0; land < 5; land++) {
            ShopPaymaster x = Shops.of(0, 1300);
            Tests.due("parts in " + land, Shops.sold(x, 0, land, 1300), "1300 0 195 1105");
            Tests.due("rate of " + land, x.setTax(land, 30, true), 0);
        }
    }

    private static void taxedAlone(int land) {
        ShopPaymaster x = Shops.of(0, 1300);
        x.setTax(land, 30, true);
        for (int each = 0; each < 5; each++) {
            Tests.due("tax in " + each, x.tax(x.buy(0, each)), each == land ? 300 : 0);
            Tests.due("held in " + each, x.heldTax(each), each == land ? 300 : 0);
        }
    }

    private static void rate(int rate, String parts) {
        ShopPaymaster x = Shops.of(0, 1300);
        x.setTax(4, 17, true);
        Tests.due("rate before", x.setTax(4, rate, true), 17);
        Tests.due("parts", Shops.sold(x, 0, 4, 1300), parts);
        Tests.due("rate before", x.setTax(4, 17, true), rate);
    }

    private static void rateTwice() {
        ShopPaymaster x = new ShopPaymaster();
        x.setTax(2, 30, true);
        Tests.due("told once", x.setTax(2, 30, false), 30);
        Tests.due("told twice", x.setTax(2, 0, true), 30);
        Tests.due("0 told", x.setTax(2, 0, true), 0);
        Tests.due("another land", x.setTax(1, 0, true), 0);
    }

    private static void taxLaterToday() {
        ShopPaymaster x = Shops.of(0, 1300);
        x.buy(0, 0);
        x.setTax(0, 30, true);
        x.buy(0, 0);
        x.setTax(0, 0, true);
        Tests.due("ahead of it", Shops.parts(x, 0), "1300 0 195 1105");
        Tests.due("behind it", Shops.parts(x, 1), "1300 300 150 850");
        Tests.due("held", x.heldTax(0), 300);
    }

    private static void heldAlone() {
        ShopPaymaster x = Shops.of(0, 1300);
        x.setTax(3, 30, true);
        x.buy(0, 3);
        x.setTax(3, 30, false);
        x.buy(0, 3);
        x.setTax(3, 30, true);
        x.buy(0, 3);
        Tests.due("held", Shops.parts(x, 0), "1300 300 150 850");
        Tests.due("passed on", Shops.parts(x, 1), "1300 300 150 1150");
        Tests.due("held again", Shops.parts(x, 2), "1300 300 150 850");
        Tests.due("held", x.heldTax(3), 600);
    }

    private static void makers() {
        Tests.test("promise 3: 'there are at most 6': the 5th, the 6th, and no 7th", ShopEdgesTest::atMost6);
        Tests.test("promise 3: 'there are 6' stays so when days have passed", ShopEdgesTest::sixLater);
        Tests.test("promise 3: 'threshold: 0 to 1000000', the first", ShopEdgesTest::lowestThreshold);
        Tests.test("promise 3: 'threshold: 0 to 1000000', the last is reached",
                () -> highestThreshold(14285, "1000000 0"));
        Tests.test("promise 3: 'threshold: 0 to 1000000', one cent below the last",
                () -> highestThreshold(14284, "0 999999"));
    }

    private static void atMost6() {
        ShopPaymaster x = new ShopPaymaster();
        for (int maker = 0; maker < 6; maker++) {
            Tests.due("maker", x.addMaker(0), maker);
        }
        Tests.due("balance of the last", x.balance(5), 0);
        Tests.badState(x, "the 7th", () -> x.addMaker(0));
        Tests.noSuch(x, "balance of a 7th", () -> x.balance(6));
    }

    private static void sixLater() {
        ShopPaymaster x = new ShopPaymaster();
        for (int maker = 0; maker < 5; maker++) {
            x.addMaker(maker);
        }
        x.pass(31);
        Tests.due("the 6th", x.addMaker(5), 5);
        x.pass(400);
        Tests.badState(x, "the 7th", () -> x.addMaker(6));
    }

    private static void lowestThreshold() {
        ShopPaymaster x = Shops.of(0, 1);
        x.buy(0, 0);
        x.pass(30);
        Tests.due("payout and carried", Shops.payoutAndCarried(x, 0, 0), "1 0");
    }

    /** Parts of 990000, and what a last sale adds to them. */
    private static void highestThreshold(int lastPrice, String payoutAndCarried) {
        ShopPaymaster x = Shops.of(1000000, 0);
        Shops.sellNets(x, 0, 1200000);
        Tests.due("balance", x.balance(0), 990000);
        Shops.sold(x, 0, 0, lastPrice);
        x.pass(30);
        Tests.due("payout and carried", Shops.payoutAndCarried(x, 0, 0), payoutAndCarried);
    }

    private static void products() {
        Tests.test("promise 4: 'at most 20': the 19th, the 20th, and no 21st", ShopEdgesTest::atMost20);
        Tests.test("promise 4: 'belongs to a maker', the first and the last", ShopEdgesTest::ownMakers);
        Tests.test("promise 4: 'price: 0 to 100000, in all lands', the first", () -> priceInAllLands(0));
        Tests.test("promise 4: 'price: 0 to 100000, in all lands', the last", () -> priceInAllLands(100000));
        Tests.test("promise 4: the price 'includes the tax'", ShopEdgesTest::taxIncluded);
    }

    private static void atMost20() {
        ShopPaymaster x = new ShopPaymaster();
        x.addMaker(0);
        x.addMaker(0);
        for (int product = 0; product < 20; product++) {
            Tests.due("product", x.addProduct(product / 19, product), product);
        }
        Tests.due("paid for the 20th", x.paid(x.buy(19, 0)), 19);
        Tests.badState(x, "the 21st, of one maker", () -> x.addProduct(0, 1));
        Tests.badState(x, "the 21st, of the other", () -> x.addProduct(1, 1));
        Tests.noSuch(x, "a 21st", () -> x.buy(20, 0));
    }

    private static void ownMakers() {
        ShopPaymaster x = new ShopPaymaster();
        for (int maker = 0; maker < 6; maker++) {
            x.addMaker(0);
        }
        x.addProduct(5, 1000);
        x.addProduct(0, 100);
        x.buy(0, 0);
        x.buy(1, 0);
        for (int maker = 0; maker < 6; maker++) {
            Tests.due("balance of " + maker, x.balance(maker), maker == 5 ? 850 : maker == 0 ? 85 : 0);
        }
    }

    private static void priceInAllLands(int price) {
        ShopPaymaster x = Shops.of(0, price);
        for (int land = 0; land < 5; land++) {
            Tests.due("paid in " + land, x.paid(x.buy(0, land)), price);
            Tests.due("price in " + land, x.setPrice(0, land, 5), price);
        }
    }

    private static void taxIncluded() {
        ShopPaymaster x = Shops.of(0, 100000);
        x.setTax(0, 30, true);
        x.buy(0, 0);
        Tests.due("paid", x.paid(0), 100000);
        Tests.due("takings", x.takings(), 100000);
        Tests.due("all parts", x.tax(0) + x.shopShare(0) + x.makerPart(0), 100000);
    }

    private static void prices() {
        Tests.test("promise 5: 'land: 0 to 4', the first one alone", () -> pricedAlone(0));
        Tests.test("promise 5: 'land: 0 to 4', the last one alone", () -> pricedAlone(4));
        Tests.test("promise 5: 'price: 0 to 100000', the first", () -> price(0));
        Tests.test("promise 5: 'price: 0 to 100000', the last", () -> price(100000));
        Tests.test("promise 5: 'from today on', a payment of tomorrow", ShopEdgesTest::priceOfTomorrow);
        Tests.test("promise 5: 'from today on', a payment of today is made already", ShopEdgesTest::priceTooLate);
        Tests.test("promise 5: 'from today on', sales of today ahead of it stay", ShopEdgesTest::priceLaterToday);
    }

    private static void pricedAlone(int land) {
        ShopPaymaster x = Shops.of(0, 500, 600);
        Tests.due("before", x.setPrice(1, land, 700), 600);
        for (int each = 0; each < 5; each++) {
            Tests.due("in " + each, x.paid(x.buy(1, each)), each == land ? 700 : 600);
            Tests.due("the other in " + each, x.paid(x.buy(0, each)), 500);
        }
    }

    private static void price(int price) {
        ShopPaymaster x = Shops.of(0, 500);
        Tests.due("before", x.setPrice(0, 2, price), 500);
        Tests.due("paid", x.paid(x.buy(0, 2)), price);
        Tests.due("before", x.setPrice(0, 2, price), price);
        Tests.due("before", x.setPrice(0, 2, 1), price);
    }

    private static void priceOfTomorrow() {
        ShopPaymaster x = Shops.of(0, 500);
        x.subscribe(0, 0, 5, false);
        x.pass(4);
        x.setPrice(0, 0, 501);
        x.pass(1);
        Tests.due("paid", x.paid(0), 501);
    }

    private static void priceTooLate() {
        ShopPaymaster x = Shops.of(0, 500);
        x.subscribe(0, 0, 5, false);
        x.pass(5);
        x.setPrice(0, 0, 501);
        x.pass(30);
        Tests.due("of today", x.paid(0), 500);
        Tests.due("the next one", x.paid(1), 501);
    }

    private static void priceLaterToday() {
        ShopPaymaster x = Shops.of(0, 500);
        x.buy(0, 0);
        x.setPrice(0, 0, 501);
        x.buy(0, 0);
        Tests.due("ahead of it", x.paid(0), 500);
        Tests.due("behind it", x.paid(1), 501);
    }
}
