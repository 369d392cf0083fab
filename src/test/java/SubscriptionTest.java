/** Promises 13 to 18: subscriptions. */
public final class SubscriptionTest {
    public static void main(String[] args) {
        Tests.test("promise 13: subscribe begins a subscription", SubscriptionTest::begun);
        Tests.test("promise 13: the first payment at half the price", SubscriptionTest::half);
        Tests.test("promise 13: at most 40", SubscriptionTest::atMost40);
        Tests.test("promise 13: subscribe refuses", SubscriptionTest::subscribeRefused);
        Tests.test("promise 14: move changes later payments", SubscriptionTest::moved);
        Tests.test("promise 14: half the price of the new product", SubscriptionTest::movedHalf);
        Tests.test("promise 14: a move while a payment is tried again", SubscriptionTest::movedInGrace);
        Tests.test("promise 14: move refuses", SubscriptionTest::moveRefused);
        Tests.test("promise 15: a payment fails and is tried again", SubscriptionTest::failing);
        Tests.test("promise 15: it ends after 6 failures", SubscriptionTest::ended);
        Tests.test("promise 15: failures count anew for each payment", SubscriptionTest::failuresAnew);
        Tests.test("promise 15: telling it in between fails nothing", SubscriptionTest::failingInBetween);
        Tests.test("promise 15: setFailing refuses", SubscriptionTest::setFailingRefused);
        Tests.test("promise 16: cancel ends at once", SubscriptionTest::cancelled);
        Tests.test("promise 16: cancel refuses", SubscriptionTest::cancelRefused);
        Tests.test("promise 17: payments", SubscriptionTest::paymentsCounted);
        Tests.test("promise 18: next", SubscriptionTest::nextDays);
        Tests.test("promises 17 and 18: no such subscription", SubscriptionTest::noSuchSubscription);
        Tests.end();
    }

    /** Maker 0 has the products 0 (1001) and 1 (2003), maker 1 the product 2 (3005). */
    private static ShopPaymaster shop() {
        ShopPaymaster x = new ShopPaymaster();
        x.addMaker(0);
        x.addMaker(0);
        x.addProduct(0, 1001);
        x.addProduct(0, 2003);
        x.addProduct(1, 3005);
        return x;
    }

    private static void begun() {
        ShopPaymaster x = shop();
        x.setTax(3, 10, true);
        x.setPrice(0, 3, 1100);
        x.pass(4);
        Tests.due("first", x.subscribe(0, 3, 1, false), 0);
        Tests.due("second", x.subscribe(2, 0, 60, false), 1);
        Tests.due("no sale yet", x.sales(), 0);
        Tests.due("next", x.next(0), 5);
        Tests.due("next", x.next(1), 64);
        Tests.due("pass", x.pass(1), 1);
        Tests.due("paid in the land", x.paid(0), 1100);
        Tests.due("tax of the land", x.tax(0), 100);
        Tests.due("pass", x.pass(59), 2);
        Tests.due("paid", x.paid(2), 3005);
        Tests.due("balance of its maker", x.balance(1), 3005 - 450);
    }

    private static void half() {
        ShopPaymaster x = shop();
        x.setTax(0, 20, false);
        x.subscribe(0, 0, 3, true);
        x.setPrice(0, 0, 1301);
        x.pass(63);
        Tests.due("first", x.paid(0), 650);
        Tests.due("tax of the paid price", x.tax(0), 108);
        Tests.due("second", x.paid(1), 1301);
        Tests.due("third", x.paid(2), 1301);
    }

    private static void atMost40() {
        ShopPaymaster x = shop();
        for (int i = 0; i < 40; i++) {
            Tests.due("subscription", x.subscribe(0, 0, 60, false), i);
        }
        Tests.badState(x, "the 41st", () -> x.subscribe(0, 0, 1, false));
        x.cancel(7);
        Tests.badState(x, "ended ones count", () -> x.subscribe(0, 0, 1, false));
        Tests.badArgument(x, "arguments come first", () -> x.subscribe(0, 5, 1, false));
        Tests.badArgument(x, "arguments come first", () -> x.subscribe(0, 0, 61, false));
        Tests.noSuch(x, "the product comes before all", () -> x.subscribe(3, 5, 0, false));
        Tests.due("pass", x.pass(60), 39);
    }

    private static void subscribeRefused() {
        ShopPaymaster x = shop();
        Tests.noSuch(x, "product 3", () -> x.subscribe(3, 0, 1, true));
        Tests.noSuch(x, "product -1", () -> x.subscribe(-1, 0, 1, true));
        Tests.noSuch(x, "the product comes first", () -> x.subscribe(3, -1, 61, true));
        Tests.badArgument(x, "land -1", () -> x.subscribe(0, -1, 1, true));
        Tests.badArgument(x, "land 5", () -> x.subscribe(0, 5, 1, true));
        Tests.badArgument(x, "days 0", () -> x.subscribe(0, 0, 0, true));
        Tests.badArgument(x, "days 61", () -> x.subscribe(0, 0, 61, true));
        Tests.badArgument(x, "days at the end", () -> x.subscribe(0, 0, Integer.MAX_VALUE, true));
        Tests.due("nothing is paid", x.pass(70), 0);
        Tests.due("the first one", x.subscribe(0, 0, 1, true), 0);
    }

    private static void moved() {
        ShopPaymaster x = shop();
        x.subscribe(0, 0, 1, false);
        x.pass(1);
        Tests.due("before", x.move(0, 1), 0);
        Tests.due("next stays", x.next(0), 31);
        Tests.due("payments stay", x.payments(0), 1);
        x.pass(30);
        Tests.due("before", x.move(0, 0), 1);
        x.pass(30);
        Tests.due("first", x.paid(0), 1001);
        Tests.due("second", x.paid(1), 2003);
        Tests.due("third", x.paid(2), 1001);
    }

    private static void movedHalf() {
        ShopPaymaster x = shop();
        x.subscribe(0, 0, 2, true);
        x.move(0, 1);
        x.pass(32);
        Tests.due("first", x.paid(0), 1001);
        Tests.due("second", x.paid(1), 2003);
    }

    private static void movedInGrace() {
        ShopPaymaster x = shop();
        x.subscribe(0, 0, 2, true);
        x.setFailing(0, true);
        x.pass(4);
        x.move(0, 1);
        x.setFailing(0, false);
        x.pass(1);
        Tests.due("first", x.paid(0), 1001);
        Tests.due("next", x.next(0), 35);
    }

    private static void moveRefused() {
        ShopPaymaster x = shop();
        Tests.noSuch(x, "subscription 0", () -> x.move(0, 1));
        x.subscribe(0, 0, 1, false);
        Tests.noSuch(x, "subscription 1", () -> x.move(1, 1));
        Tests.noSuch(x, "subscription -1", () -> x.move(-1, 1));
        Tests.noSuch(x, "product 3", () -> x.move(0, 3));
        Tests.noSuch(x, "product -1", () -> x.move(0, -1));
        Tests.badArgument(x, "the same product", () -> x.move(0, 0));
        Tests.badArgument(x, "a product of another maker", () -> x.move(0, 2));
        x.move(0, 1);
        Tests.badArgument(x, "the same product after a move", () -> x.move(0, 1));
        x.cancel(0);
        Tests.badState(x, "ended", () -> x.move(0, 0));
        Tests.badArgument(x, "the argument comes before the state", () -> x.move(0, 1));
        Tests.badArgument(x, "the argument comes before the state", () -> x.move(0, 2));
        Tests.noSuch(x, "the product comes before the state", () -> x.move(0, 3));
    }

    private static void failing() {
        ShopPaymaster x = shop();
        x.subscribe(0, 0, 3, false);
        x.setFailing(0, true);
        Tests.due("pass", x.pass(3), 0);
        Tests.due("tried again tomorrow", x.next(0), 4);
        Tests.due("pass", x.pass(4), 0);
        Tests.due("tried a sixth time tomorrow", x.next(0), 8);
        x.setFailing(0, false);
        Tests.due("not at once", x.payments(0), 0);
        Tests.due("pass", x.pass(1), 1);
        Tests.due("30 days behind the payment", x.next(0), 38);
        Tests.due("pass", x.pass(29), 0);
        Tests.due("pass", x.pass(1), 1);
    }

    private static void ended() {
        ShopPaymaster x = shop();
        x.subscribe(0, 0, 3, false);
        x.subscribe(0, 0, 3, false);
        x.pass(3);
        x.setFailing(0, true);
        x.pass(34);
        Tests.due("next before the sixth failure", x.next(0), 38);
        x.pass(1);
        Tests.due("next after it", x.next(0), ShopPaymaster.NONE);
        Tests.due("payments", x.payments(0), 1);
        Tests.badState(x, "ended", () -> x.setFailing(0, false));
        Tests.due("only the other one pays", x.pass(60), 2);
        Tests.due("payments", x.payments(0), 1);
    }

    private static void failuresAnew() {
        ShopPaymaster x = shop();
        x.subscribe(0, 0, 1, false);
        x.setFailing(0, true);
        x.pass(5);
        x.setFailing(0, false);
        x.pass(1);
        Tests.due("paid at the sixth try", x.payments(0), 1);
        x.setFailing(0, true);
        x.pass(34);
        Tests.due("tried five times", x.next(0), 41);
        x.setFailing(0, false);
        Tests.due("pass", x.pass(1), 1);
        Tests.due("next", x.next(0), 71);
    }

    private static void failingInBetween() {
        ShopPaymaster x = shop();
        x.subscribe(0, 0, 5, false);
        x.setFailing(0, true);
        x.pass(4);
        x.setFailing(0, false);
        Tests.due("pass", x.pass(1), 1);
        x.setFailing(0, true);
        x.setFailing(0, true);
        Tests.due("next", x.next(0), 35);
    }

    private static void setFailingRefused() {
        ShopPaymaster x = shop();
        Tests.noSuch(x, "subscription 0", () -> x.setFailing(0, true));
        x.subscribe(0, 0, 1, false);
        Tests.noSuch(x, "subscription 1", () -> x.setFailing(1, true));
        Tests.noSuch(x, "subscription -1", () -> x.setFailing(-1, true));
        x.cancel(0);
        Tests.badState(x, "ended", () -> x.setFailing(0, true));
        Tests.badState(x, "ended", () -> x.setFailing(0, false));
    }

    private static void cancelled() {
        ShopPaymaster x = shop();
        x.subscribe(0, 0, 1, false);
        x.subscribe(0, 0, 1, false);
        Tests.due("none", x.cancel(1), 0);
        x.pass(31);
        Tests.due("two", x.cancel(0), 2);
        Tests.due("next", x.next(0), ShopPaymaster.NONE);
        Tests.due("payments", x.payments(0), 2);
        Tests.due("pass", x.pass(100), 0);
        Tests.due("sales", x.sales(), 2);
    }

    private static void cancelRefused() {
        ShopPaymaster x = shop();
        Tests.noSuch(x, "subscription 0", () -> x.cancel(0));
        x.subscribe(0, 0, 1, false);
        x.subscribe(0, 0, 1, false);
        Tests.noSuch(x, "subscription 2", () -> x.cancel(2));
        Tests.noSuch(x, "subscription -1", () -> x.cancel(-1));
        x.cancel(0);
        Tests.badState(x, "cancelled", () -> x.cancel(0));
        x.setFailing(1, true);
        x.pass(6);
        Tests.badState(x, "ended by failing", () -> x.cancel(1));
    }

    private static void paymentsCounted() {
        ShopPaymaster x = shop();
        x.setPrice(0, 0, 0);
        x.subscribe(0, 0, 10, false);
        Tests.due("none", x.payments(0), 0);
        x.pass(9);
        Tests.due("none", x.payments(0), 0);
        x.pass(1);
        Tests.due("one, of 0 cents", x.payments(0), 1);
        x.refund(0);
        Tests.due("refunded ones count", x.payments(0), 1);
        x.pass(360);
        Tests.due("many", x.payments(0), 13);
    }

    private static void nextDays() {
        ShopPaymaster x = shop();
        x.pass(17);
        x.subscribe(0, 0, 60, false);
        Tests.due("first", x.next(0), 77);
        x.pass(59);
        Tests.due("first", x.next(0), 77);
        x.pass(1);
        Tests.due("second", x.next(0), 107);
        for (int i = 0; i < 8; i++) {
            x.pass(400);
        }
        x.pass(323);
        Tests.due("day", x.day(), 3600);
        Tests.due("above the last day", x.next(0), 3617);
        x.cancel(0);
        Tests.due("ended", x.next(0), -1);
    }

    private static void noSuchSubscription() {
        ShopPaymaster x = shop();
        x.subscribe(0, 0, 1, false);
        for (int subscription : new int[] {-1, 1, Integer.MIN_VALUE, Integer.MAX_VALUE}) {
            Tests.noSuch(x, "payments", () -> x.payments(subscription));
            Tests.noSuch(x, "next", () -> x.next(subscription));
        }
    }
}
