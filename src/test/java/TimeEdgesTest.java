/** Promises 25 and 26, and 'A day' of the terms: the boundary cases, a test for each sentence. */
public final class TimeEdgesTest {
    public static void main(String[] args) {
        passing();
        lastDay();
        nextDay();
        order();
        counts();
        Tests.end();
    }

    private static void passing() {
        Tests.test("promise 25: 'days: 1 to 400', the first", () -> passed(1));
        Tests.test("promise 25: 'days: 1 to 400', the last", () -> passed(400));
        Tests.test("promise 25: 'days: 1 to 400', none", () -> notPassed(0));
        Tests.test("promise 25: 'days: 1 to 400', one less than none", () -> notPassed(-1));
        Tests.test("promise 25: 'days: 1 to 400', the first above", () -> notPassed(401));
        Tests.test("promise 25: 'days: 1 to 400', so many that a sum would wrap around",
                () -> notPassed(Integer.MAX_VALUE));
        Tests.test("promise 25: 'days: 1 to 400', the least of all", () -> notPassed(Integer.MIN_VALUE));
        Tests.test("promise 26: the day, 0 and each one behind it", TimeEdgesTest::eachDay);
    }

    private static void passed(int days) {
        ShopPaymaster x = Shops.of(0, 1000);
        Tests.due("payments", x.pass(days), 0);
        Tests.due("day", x.day(), days);
        Tests.due("payments", x.pass(days), 0);
        Tests.due("day", x.day(), 2 * days);
    }

    private static void notPassed(int days) {
        ShopPaymaster x = Shops.of(0, 1000);
        x.pass(1);
        Tests.badArgument(x, "pass", () -> x.pass(days));
        Tests.due("day", x.day(), 1);
    }

    private static void eachDay() {
        ShopPaymaster x = new ShopPaymaster();
        for (int day = 0; day < 100; day++) {
            Tests.due("day", x.day(), day);
            x.pass(1);
        }
    }

    private static void lastDay() {
        Tests.test("promise 25: 'above 3600', 400 days up to it", () -> passedTo(3200, 400));
        Tests.test("promise 25: 'above 3600', 1 day up to it", () -> passedTo(3599, 1));
        Tests.test("promise 25: 'above 3600', 400 days, one too many", () -> aboveLast(3201, 400));
        Tests.test("promise 25: 'above 3600', 2 days, one too many", () -> aboveLast(3599, 2));
        Tests.test("promise 25: 'above 3600', 1 day, one too many", () -> aboveLast(3600, 1));
        Tests.test("promise 25: a payment on the day 3600", TimeEdgesTest::paymentOnLastDay);
        Tests.test("promise 25: a refused pass makes no payment on its way", TimeEdgesTest::noPaymentOnTheWay);
        Tests.test("promise 25: other calls are answered on the day 3600", TimeEdgesTest::callsOnLastDay);
    }

    private static void passedTo(int day, int days) {
        ShopPaymaster x = Shops.of(0, 1000);
        Shops.passTo(x, day);
        Tests.due("payments", x.pass(days), 0);
        Tests.due("day", x.day(), 3600);
    }

    private static void aboveLast(int day, int days) {
        ShopPaymaster x = Shops.of(0, 1000);
        Shops.passTo(x, day);
        Tests.badState(x, "pass", () -> x.pass(days));
        Tests.due("day", x.day(), day);
    }

    private static void paymentOnLastDay() {
        ShopPaymaster x = Shops.of(0, 1000);
        Shops.passTo(x, 3540);
        x.subscribe(0, 0, 60, false);
        Tests.due("until the day before", x.pass(59), 0);
        Tests.due("on the last day", x.pass(1), 1);
        Tests.due("next", x.next(0), 3630);
    }

    private static void noPaymentOnTheWay() {
        ShopPaymaster x = Shops.of(0, 1000);
        Shops.passTo(x, 3590);
        x.subscribe(0, 0, 1, false);
        Tests.badState(x, "pass", () -> x.pass(11));
        Tests.due("sales", x.sales(), 0);
        Tests.due("next", x.next(0), 3591);
        Tests.due("payments of the days that are left", x.pass(10), 1);
    }

    private static void callsOnLastDay() {
        ShopPaymaster x = Shops.of(0, 1000);
        Shops.passTo(x, 3600);
        Tests.due("maker", x.addMaker(0), 1);
        Tests.due("product", x.addProduct(1, 100), 1);
        Tests.due("sale", x.buy(1, 0), 0);
        Tests.due("balance", x.balance(1), 85);
        Tests.due("subscription", x.subscribe(1, 0, 1, false), 0);
        Tests.due("cancel", x.cancel(0), 0);
    }

    private static void nextDay() {
        Tests.test("promise 25: 'if it is the first one of a month, the month before is closed'",
                () -> closes(29, true));
        Tests.test("promise 25: 'the first one of a month', not its last one", () -> closes(28, false));
        Tests.test("promise 25: 'the first one of a month', not its second one", () -> closes(30, false));
        Tests.test("promise 25: 'the first one of a month', of the second one", () -> closes(59, true));
        Tests.test("promise 25: 'the first one of a month', of a year", () -> closes(359, true));
        Tests.test("promise 25: 'the first one of a month', the last day", () -> closes(3599, true));
        Tests.test("promise 25: each month in many days is closed by itself", TimeEdgesTest::manyMonths);
    }

    /** Whether a sale of a day is in a closed month on the next one. */
    private static void closes(int day, boolean isClosed) {
        ShopPaymaster x = Shops.of(1000, 1000);
        Shops.passTo(x, day);
        x.buy(0, 0);
        Tests.due("carried that day", x.carried(0), 0);
        x.pass(1);
        Tests.due("carried the next day", x.carried(0), isClosed ? 850 : 0);
        Tests.due("balance the next day", x.balance(0), 850);
    }

    private static void manyMonths() {
        ShopPaymaster x = Shops.of(0, 1000);
        x.subscribe(0, 0, 15, false);
        Tests.due("payments", x.pass(400), 13);
        for (int month = 0; month < 13; month++) {
            Tests.due("month " + month, x.payout(0, month), 850);
        }
    }

    private static void order() {
        Tests.test("promise 25: 'then payments', of the month that begins", TimeEdgesTest::paymentBehindClose);
        Tests.test("promise 25: 'then payments', of the month that ends the day before",
                TimeEdgesTest::paymentAheadOfClose);
        Tests.test("promise 25: 'by rising numbers', not by their days of beginning", TimeEdgesTest::byNumbers);
        Tests.test("promise 25: 'by rising numbers', those tried again among them", TimeEdgesTest::triedAmongThem);
        Tests.test("promise 25: 'by rising numbers', the last one behind the sum of nets",
                TimeEdgesTest::shareByNumbers);
        Tests.test("promise 25: day by day, not subscription by subscription", TimeEdgesTest::dayByDay);
    }

    private static void paymentBehindClose() {
        ShopPaymaster x = Shops.of(0, 1000);
        x.subscribe(0, 0, 30, false);
        Tests.due("made", x.pass(30), 1);
        Tests.due("payout of month 0", x.payout(0, 0), 0);
        Tests.due("balance", x.balance(0), 850);
        Shops.passTo(x, 120);
        Tests.due("refund in month 4", x.refund(0), 1000);
    }

    private static void paymentAheadOfClose() {
        ShopPaymaster x = Shops.of(0, 1000);
        x.subscribe(0, 0, 29, false);
        Tests.due("made", x.pass(30), 1);
        Tests.due("payout of month 0", x.payout(0, 0), 850);
        Tests.due("balance", x.balance(0), 0);
        Shops.passTo(x, 120);
        Tests.badState(x, "refund in month 4", () -> x.refund(0));
    }

    private static void byNumbers() {
        ShopPaymaster x = Shops.of(0, 10, 20, 30);
        x.subscribe(2, 0, 20, false);
        x.pass(10);
        x.subscribe(0, 0, 10, false);
        x.pass(9);
        x.subscribe(1, 0, 1, false);
        Tests.due("made", x.pass(1), 3);
        Tests.due("first", x.paid(0), 30);
        Tests.due("second", x.paid(1), 10);
        Tests.due("third", x.paid(2), 20);
    }

    private static void triedAmongThem() {
        ShopPaymaster x = Shops.of(0, 10, 20, 30);
        x.subscribe(0, 0, 8, false);
        x.subscribe(1, 0, 5, false);
        x.subscribe(2, 0, 8, false);
        x.setFailing(1, true);
        x.pass(7);
        x.setFailing(1, false);
        Tests.due("made", x.pass(1), 3);
        Tests.due("first", x.paid(0), 10);
        Tests.due("second", x.paid(1), 20);
        Tests.due("third", x.paid(2), 30);
    }

    private static void shareByNumbers() {
        ShopPaymaster x = Shops.of(0, 1, 1000);
        Shops.sellNets(x, 0, 998000);
        for (int subscription = 0; subscription < 3; subscription++) {
            x.subscribe(1, 0, 1, false);
        }
        x.pass(1);
        int last = x.sales() - 1;
        Tests.due("after 998000", Shops.parts(x, last - 2), "1000 0 150 850");
        Tests.due("after 999000", Shops.parts(x, last - 1), "1000 0 150 850");
        Tests.due("after 1000000", Shops.parts(x, last), "1000 0 300 700");
    }

    private static void dayByDay() {
        ShopPaymaster x = Shops.of(0, 10, 20);
        x.subscribe(0, 0, 2, false);
        x.subscribe(1, 0, 1, false);
        Tests.due("made", x.pass(32), 4);
        int[] paid = {20, 10, 20, 10};
        for (int sale = 0; sale < 4; sale++) {
            Tests.due("sale " + sale, x.paid(sale), paid[sale]);
        }
    }

    private static void counts() {
        Tests.test("promise 25: 'how many payments', none without subscriptions", () -> Tests.due("made",
                new ShopPaymaster().pass(400), 0));
        Tests.test("promise 25: 'how many payments are made', failed ones are none", TimeEdgesTest::failedAreNone);
        Tests.test("promise 25: 'how many payments are made in them', not before", TimeEdgesTest::inThemAlone);
        Tests.test("promise 25: 'how many payments', most in one pass", TimeEdgesTest::mostInOnePass);
    }

    private static void failedAreNone() {
        ShopPaymaster x = Shops.of(0, 1000);
        x.subscribe(0, 0, 5, false);
        x.subscribe(0, 0, 5, false);
        x.setFailing(0, true);
        Tests.due("made", x.pass(6), 1);
        x.setFailing(0, false);
        Tests.due("made", x.pass(1), 1);
    }

    private static void inThemAlone() {
        ShopPaymaster x = Shops.of(0, 1000);
        x.subscribe(0, 0, 1, false);
        x.buy(0, 0);
        Tests.due("the first", x.pass(30), 1);
        Tests.due("the second", x.pass(1), 1);
        Tests.due("none", x.pass(29), 0);
        Tests.due("sales", x.sales(), 3);
    }

    private static void mostInOnePass() {
        ShopPaymaster x = Shops.of(0, 1000);
        for (int subscription = 0; subscription < 40; subscription++) {
            x.subscribe(0, 0, 1, false);
        }
        Tests.due("made in 400 days", x.pass(400), 40 * 14);
        Tests.due("made in 30 days", x.pass(30), 40);
    }
}
