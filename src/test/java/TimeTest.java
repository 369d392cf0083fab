/** Promises 25 and 26: days pass. */
public final class TimeTest {
    public static void main(String[] args) {
        Tests.test("promise 25: pass counts the payments", TimeTest::paymentsCounted);
        Tests.test("promise 25: payments are made by rising numbers", TimeTest::risingNumbers);
        Tests.test("promise 25: the month is closed before payments", TimeTest::closedFirst);
        Tests.test("promise 25: many days at once are as many single days", TimeTest::atOnceOrSingly);
        Tests.test("promise 25: pass refuses", TimeTest::passRefused);
        Tests.test("promise 25: pass up to the last day", TimeTest::lastDay);
        Tests.test("promise 26: day", TimeTest::days);
        Tests.test("the heaviest run stays within bounds", TimeTest::heaviestRun);
        Tests.end();
    }

    private static ShopPaymaster shop() {
        ShopPaymaster x = new ShopPaymaster();
        x.addMaker(0);
        x.addProduct(0, 1000);
        x.addProduct(0, 100);
        return x;
    }

    private static void paymentsCounted() {
        ShopPaymaster x = shop();
        Tests.due("none", x.pass(1), 0);
        x.subscribe(0, 0, 1, false);
        x.subscribe(1, 0, 30, false);
        Tests.due("one", x.pass(1), 1);
        Tests.due("none", x.pass(28), 0);
        Tests.due("two", x.pass(2), 2);
        Tests.due("many", x.pass(300), 20);
    }

    private static void risingNumbers() {
        ShopPaymaster x = shop();
        x.subscribe(0, 0, 5, false);
        x.subscribe(1, 0, 4, false);
        x.subscribe(1, 0, 5, false);
        x.setFailing(1, true);
        x.pass(4);
        x.setFailing(1, false);
        Tests.due("pass", x.pass(1), 3);
        Tests.due("first", x.paid(0), 1000);
        Tests.due("second", x.paid(1), 100);
        Tests.due("third", x.paid(2), 100);
    }

    private static void closedFirst() {
        ShopPaymaster x = shop();
        x.subscribe(0, 0, 30, false);
        x.pass(30);
        Tests.due("payout of month 0", x.payout(0, 0), 0);
        Tests.due("balance of month 1", x.balance(0), 850);
        x.pass(29);
        Tests.due("balance on day 59", x.balance(0), 850);
        x.pass(1);
        Tests.due("payout of month 1", x.payout(0, 1), 850);
    }

    private static void atOnceOrSingly() {
        ShopPaymaster x = shop();
        ShopPaymaster y = shop();
        for (ShopPaymaster each : new ShopPaymaster[] {x, y}) {
            each.subscribe(0, 0, 7, true);
            each.subscribe(1, 2, 33, false);
        }
        int singly = 0;
        for (int i = 0; i < 400; i++) {
            singly += y.pass(1);
        }
        Tests.due("payments", x.pass(400), singly);
        Tests.due("state", x.balance(0), y.balance(0));
        Tests.due("payout", x.payout(0, 12), y.payout(0, 12));
        Tests.due("sales", x.sales(), y.sales());
    }

    private static void passRefused() {
        ShopPaymaster x = shop();
        Tests.badArgument(x, "0 days", () -> x.pass(0));
        Tests.badArgument(x, "-1 days", () -> x.pass(-1));
        Tests.badArgument(x, "401 days", () -> x.pass(401));
        Tests.badArgument(x, "days at the end", () -> x.pass(Integer.MAX_VALUE));
        Tests.due("day", x.day(), 0);
    }

    private static void lastDay() {
        ShopPaymaster x = shop();
        x.subscribe(0, 0, 30, false);
        for (int i = 0; i < 8; i++) {
            x.pass(400);
        }
        x.pass(399);
        Tests.due("day", x.day(), 3599);
        Tests.badState(x, "2 days", () -> x.pass(2));
        Tests.badState(x, "400 days", () -> x.pass(400));
        Tests.badArgument(x, "the argument comes first", () -> x.pass(401));
        Tests.due("a payment on the last day", x.pass(1), 1);
        Tests.due("day", x.day(), 3600);
        Tests.due("payments", x.payments(0), 120);
        Tests.due("the last closed month", x.payout(0, 119), 850);
        Tests.badArgument(x, "month 120", () -> x.payout(0, 120));
        Tests.due("balance of the last day", x.balance(0), 850);
        Tests.badState(x, "1 day", () -> x.pass(1));
        Tests.badArgument(x, "0 days", () -> x.pass(0));
    }

    private static void days() {
        ShopPaymaster x = new ShopPaymaster();
        Tests.due("at first", x.day(), 0);
        x.pass(1);
        Tests.due("one", x.day(), 1);
        x.pass(400);
        Tests.due("many", x.day(), 401);
    }

    private static void heaviestRun() {
        ShopPaymaster x = new ShopPaymaster();
        x.addMaker(1000000);
        x.addProduct(0, 100000);
        for (int i = 0; i < 40; i++) {
            x.subscribe(0, i % 5, 1, false);
        }
        int made = 0;
        for (int i = 0; i < 9; i++) {
            made += x.pass(400);
        }
        for (int i = 0; i < 459; i++) {
            x.buy(0, 0);
        }
        Tests.due("payments", made, 4800);
        Tests.due("takings", x.takings(), 525900000);
    }
}
