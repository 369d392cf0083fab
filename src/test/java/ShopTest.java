/** Promises 1 to 5: a new object, taxes, makers, products and prices. */
public final class ShopTest {
    public static void main(String[] args) {
        Tests.test("promise 1: a new object is empty", ShopTest::newObject);
        Tests.test("promise 1: objects share nothing", ShopTest::objectsShareNothing);
        Tests.test("promise 1: NONE", () -> Tests.due("NONE", ShopPaymaster.NONE, -1));
        Tests.test("promise 2: setTax answers the rate before", ShopTest::taxBefore);
        Tests.test("promise 2: setTax counts for later sales alone", ShopTest::taxFromTodayOn);
        Tests.test("promise 2: setTax refuses", ShopTest::taxRefused);
        Tests.test("promise 3: addMaker numbers up to 6", ShopTest::makers);
        Tests.test("promise 3: addMaker refuses", ShopTest::makersRefused);
        Tests.test("promise 4: addProduct numbers up to 20, its price counts in all lands", ShopTest::products);
        Tests.test("promise 4: addProduct refuses", ShopTest::productsRefused);
        Tests.test("promise 5: setPrice is of one product in one land", ShopTest::prices);
        Tests.test("promise 5: setPrice counts for payments of subscriptions", ShopTest::pricesOfPayments);
        Tests.test("promise 5: setPrice refuses", ShopTest::pricesRefused);
        Tests.end();
    }

    private static void newObject() {
        ShopPaymaster x = new ShopPaymaster();
        Tests.due("state", State.of(x), "day 0 shop 0 takings 0 held 0 held 0 held 0 held 0 held 0");
        Tests.due("sales", x.sales(), 0);
        Tests.noSuch(x, "carried(0)", () -> x.carried(0));
        Tests.noSuch(x, "buy(0, 0)", () -> x.buy(0, 0));
        Tests.noSuch(x, "paid(0)", () -> x.paid(0));
        Tests.noSuch(x, "next(0)", () -> x.next(0));
    }

    private static void objectsShareNothing() {
        ShopPaymaster x = new ShopPaymaster();
        x.setTax(0, 20, false);
        x.addMaker(0);
        x.addProduct(0, 1200);
        x.buy(0, 0);
        x.pass(31);
        newObject();
        Tests.due("rate of a new object", new ShopPaymaster().setTax(0, 0, true), 0);
    }

    private static void taxBefore() {
        ShopPaymaster x = new ShopPaymaster();
        for (int land = 0; land < 5; land++) {
            Tests.due("first rate of " + land, x.setTax(land, 30 - land, true), 0);
        }
        for (int land = 0; land < 5; land++) {
            Tests.due("second rate of " + land, x.setTax(land, 0, false), 30 - land);
        }
        Tests.due("third rate", x.setTax(3, 5, false), 0);
    }

    private static void taxFromTodayOn() {
        ShopPaymaster x = new ShopPaymaster();
        x.addMaker(0);
        x.addProduct(0, 1300);
        x.buy(0, 2);
        Tests.due("tax at first", x.tax(0), 0);
        x.setTax(2, 30, true);
        x.buy(0, 2);
        x.buy(0, 1);
        Tests.due("tax of the old sale", x.tax(0), 0);
        Tests.due("tax held", x.tax(1), 300);
        Tests.due("part with tax held", x.makerPart(1), 850);
        Tests.due("tax of another land", x.tax(2), 0);
        x.setTax(2, 30, false);
        x.buy(0, 2);
        Tests.due("tax passed on", x.tax(3), 300);
        Tests.due("part with tax passed on", x.makerPart(3), 1150);
        Tests.due("part of the sale before", x.makerPart(1), 850);
        Tests.due("held", x.heldTax(2), 300);
    }

    private static void taxRefused() {
        ShopPaymaster x = new ShopPaymaster();
        x.addMaker(0);
        x.addProduct(0, 1100);
        x.setTax(4, 10, false);
        Tests.badArgument(x, "land -1", () -> x.setTax(-1, 0, true));
        Tests.badArgument(x, "land 5", () -> x.setTax(5, 0, true));
        Tests.badArgument(x, "land at the end", () -> x.setTax(Integer.MIN_VALUE, 0, true));
        Tests.badArgument(x, "rate -1", () -> x.setTax(4, -1, true));
        Tests.badArgument(x, "rate 31", () -> x.setTax(4, 31, true));
        Tests.badArgument(x, "rate at the end", () -> x.setTax(4, Integer.MAX_VALUE, true));
        x.buy(0, 4);
        Tests.due("tax", x.tax(0), 100);
        Tests.due("still passed on", x.heldTax(4), 0);
        Tests.due("rate", x.setTax(4, 0, true), 10);
    }

    private static void makers() {
        ShopPaymaster x = new ShopPaymaster();
        for (int maker = 0; maker < 6; maker++) {
            Tests.due("maker", x.addMaker(maker % 2 == 0 ? 0 : 1000000), maker);
            Tests.due("balance", x.balance(maker), 0);
        }
        Tests.noSuch(x, "maker 6", () -> x.balance(6));
    }

    private static void makersRefused() {
        ShopPaymaster x = new ShopPaymaster();
        Tests.badArgument(x, "threshold -1", () -> x.addMaker(-1));
        Tests.badArgument(x, "threshold 1000001", () -> x.addMaker(1000001));
        Tests.noSuch(x, "no maker was added", () -> x.balance(0));
        for (int maker = 0; maker < 6; maker++) {
            x.addMaker(0);
        }
        Tests.badState(x, "a seventh maker", () -> x.addMaker(0));
        Tests.badArgument(x, "the argument comes first", () -> x.addMaker(-1));
        Tests.badArgument(x, "the argument comes first", () -> x.addMaker(1000001));
        Tests.noSuch(x, "maker 6", () -> x.balance(6));
    }

    private static void products() {
        ShopPaymaster x = new ShopPaymaster();
        x.addMaker(0);
        x.addMaker(0);
        for (int product = 0; product < 20; product++) {
            Tests.due("product", x.addProduct(product % 2, product == 19 ? 100000 : product), product);
        }
        for (int land = 0; land < 5; land++) {
            Tests.due("paid in " + land, x.paid(x.buy(19, land)), 100000);
            Tests.due("paid in " + land, x.paid(x.buy(0, land)), 0);
        }
        Tests.due("balance of the other maker", x.balance(0), 0);
        Tests.due("balance of the maker", x.balance(1), 425000);
    }

    private static void productsRefused() {
        ShopPaymaster x = new ShopPaymaster();
        Tests.noSuch(x, "no maker", () -> x.addProduct(0, 1));
        x.addMaker(0);
        Tests.noSuch(x, "maker 1", () -> x.addProduct(1, 1));
        Tests.noSuch(x, "maker -1", () -> x.addProduct(-1, 1));
        Tests.noSuch(x, "the maker comes first", () -> x.addProduct(1, -1));
        Tests.badArgument(x, "price -1", () -> x.addProduct(0, -1));
        Tests.badArgument(x, "price 100001", () -> x.addProduct(0, 100001));
        Tests.noSuch(x, "no product was added", () -> x.buy(0, 0));
        for (int product = 0; product < 20; product++) {
            x.addProduct(0, 1);
        }
        Tests.badState(x, "product 20", () -> x.addProduct(0, 1));
        Tests.badArgument(x, "the price comes before the room", () -> x.addProduct(0, 100001));
        Tests.noSuch(x, "the maker comes before all", () -> x.addProduct(1, 100001));
        Tests.noSuch(x, "product 20", () -> x.buy(20, 0));
    }

    private static void prices() {
        ShopPaymaster x = new ShopPaymaster();
        x.addMaker(0);
        x.addProduct(0, 500);
        x.addProduct(0, 600);
        x.buy(0, 4);
        Tests.due("before", x.setPrice(0, 4, 100000), 500);
        Tests.due("before", x.setPrice(0, 0, 0), 500);
        Tests.due("before", x.setPrice(0, 4, 70), 100000);
        Tests.due("in land 4", x.paid(x.buy(0, 4)), 70);
        Tests.due("in land 0", x.paid(x.buy(0, 0)), 0);
        Tests.due("in land 3", x.paid(x.buy(0, 3)), 500);
        Tests.due("the other product", x.paid(x.buy(1, 4)), 600);
        Tests.due("the sale before", x.paid(0), 500);
    }

    private static void pricesOfPayments() {
        ShopPaymaster x = new ShopPaymaster();
        x.addMaker(0);
        x.addProduct(0, 500);
        x.subscribe(0, 1, 5, false);
        x.pass(5);
        x.setPrice(0, 1, 800);
        x.setPrice(0, 2, 900);
        x.pass(30);
        Tests.due("first payment", x.paid(0), 500);
        Tests.due("second payment", x.paid(1), 800);
    }

    private static void pricesRefused() {
        ShopPaymaster x = new ShopPaymaster();
        Tests.noSuch(x, "no product", () -> x.setPrice(0, 0, 0));
        x.addMaker(0);
        x.addProduct(0, 7);
        Tests.noSuch(x, "product 1", () -> x.setPrice(1, 0, 0));
        Tests.noSuch(x, "product -1", () -> x.setPrice(-1, 0, 0));
        Tests.noSuch(x, "the product comes first", () -> x.setPrice(1, 5, -1));
        Tests.badArgument(x, "land -1", () -> x.setPrice(0, -1, 0));
        Tests.badArgument(x, "land 5", () -> x.setPrice(0, 5, 0));
        Tests.badArgument(x, "price -1", () -> x.setPrice(0, 0, -1));
        Tests.badArgument(x, "price 100001", () -> x.setPrice(0, 0, 100001));
        for (int land = 0; land < 5; land++) {
            Tests.due("price in " + land, x.setPrice(0, land, 1), 7);
        }
    }
}
