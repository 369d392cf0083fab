/** Promises 19 to 24, and 'payouts' of the terms: the boundary cases, a test for each sentence. */
public final class PayoutEdgesTest {
    public static void main(String[] args) {
        thresholds();
        carrying();
        months();
        laterMakers();
        balances();
        sums();
        Tests.end();
    }

    private static void thresholds() {
        Tests.test("promise 19: 'at least the threshold', one cent below", () -> closed(100, 99, "0 99"));
        Tests.test("promise 19: 'at least the threshold', just at it", () -> closed(100, 100, "100 0"));
        Tests.test("promise 19: 'at least the threshold', one cent above", () -> closed(100, 101, "101 0"));
        Tests.test("promise 19: 'above 0', 0 at a threshold of 0", () -> closed(0, 0, "0 0"));
        Tests.test("promise 19: 'above 0', 1 at a threshold of 0", () -> closed(0, 1, "1 0"));
        Tests.test("promise 19: 'above 0', -1 at a threshold of 0", () -> closed(0, -1, "0 -1"));
        Tests.test("promise 19: 1 at a threshold of 1", () -> closed(1, 1, "1 0"));
        Tests.test("promise 19: 1 at a threshold of 2", () -> closed(2, 1, "0 1"));
        Tests.test("promise 19: a sum below 0 whose size is above the threshold", () -> closed(5, -6, "0 -6"));
        Tests.test("promise 19: each maker by its own threshold", PayoutEdgesTest::ownThresholds);
    }

    /** Month 1 is closed with a balance of that sum; prices below 7 have no share of the shop. */
    private static void closed(int threshold, int sum, String payoutAndCarried) {
        ShopPaymaster x = Shops.of(threshold, 6, 1);
        x.buy(0, 0);
        x.pass(30);
        x.refund(0);
        while (x.balance(0) < sum) {
            x.buy(1, 0);
        }
        Tests.due("balance", x.balance(0), sum);
        x.pass(30);
        Tests.due("payout and carried", Shops.payoutAndCarried(x, 0, 1), payoutAndCarried);
    }

    private static void ownThresholds() {
        ShopPaymaster x = new ShopPaymaster();
        for (int maker = 0; maker < 6; maker++) {
            x.addMaker(83 + maker);
            x.addProduct(maker, 100);
            x.buy(maker, 0);
        }
        x.pass(30);
        for (int maker = 0; maker < 6; maker++) {
            Tests.due("maker " + maker, Shops.payoutAndCarried(x, maker, 0), maker <= 2 ? "85 0" : "0 85");
        }
    }

    private static void carrying() {
        Tests.test("promise 20: 'what was carried, at first 0'", PayoutEdgesTest::carriedAtFirst);
        Tests.test("promise 20: 'otherwise it is carried', up to the threshold", PayoutEdgesTest::carriedUp);
        Tests.test("promise 20: 'it is paid out and 0 is carried'", PayoutEdgesTest::paidOutOnce);
        Tests.test("promise 20: 'also if it is below 0', over months", PayoutEdgesTest::carriedBelowZero);
        Tests.test("promise 20: what is below 0 is taken from later parts", PayoutEdgesTest::takenFromLater);
        Tests.test("promise 20: 'from the last closed month', not from this one", PayoutEdgesTest::thisMonthLeftOut);
    }

    private static void carriedAtFirst() {
        ShopPaymaster x = Shops.of(1000, 1000);
        Tests.due("no month", x.carried(0), 0);
        x.buy(0, 0);
        x.pass(29);
        Tests.due("on day 29", x.carried(0), 0);
        x.pass(1);
        Tests.due("on day 30", x.carried(0), 850);
    }

    private static void carriedUp() {
        ShopPaymaster x = Shops.of(255, 100);
        for (int month = 0; month < 3; month++) {
            x.buy(0, 0);
            x.pass(30);
            Tests.due("month " + month, Shops.payoutAndCarried(x, 0, month),
                    month == 0 ? "0 85" : month == 1 ? "0 170" : "255 0");
        }
    }

    private static void paidOutOnce() {
        ShopPaymaster x = Shops.of(0, 100);
        x.buy(0, 0);
        x.pass(60);
        Tests.due("month 0", x.payout(0, 0), 85);
        Tests.due("month 1", Shops.payoutAndCarried(x, 0, 1), "0 0");
        Tests.due("balance", x.balance(0), 0);
    }

    private static void carriedBelowZero() {
        ShopPaymaster x = Shops.of(0, 100);
        x.buy(0, 0);
        x.pass(30);
        x.refund(0);
        for (int month = 1; month < 4; month++) {
            x.pass(30);
            Tests.due("month " + month, Shops.payoutAndCarried(x, 0, month), "0 -85");
        }
    }

    private static void takenFromLater() {
        ShopPaymaster x = Shops.of(0, 100);
        x.buy(0, 0);
        x.pass(30);
        x.refund(0);
        x.pass(30);
        x.buy(0, 0);
        Tests.due("balance", x.balance(0), 0);
        Shops.sold(x, 0, 0, 1);
        x.pass(30);
        Tests.due("month 2", Shops.payoutAndCarried(x, 0, 2), "1 0");
    }

    private static void thisMonthLeftOut() {
        ShopPaymaster x = Shops.of(1000, 100);
        x.buy(0, 0);
        x.pass(30);
        x.buy(0, 0);
        x.refund(0);
        x.refund(1);
        Tests.due("carried", x.carried(0), 85);
        Tests.due("balance", x.balance(0), 0);
    }

    private static void months() {
        Tests.test("promise 19: 'the days 30 m to 30 m + 29', day 29 is of month 0", () -> paidOutFor(29, 0));
        Tests.test("promise 19: 'the days 30 m to 30 m + 29', day 30 is of month 1", () -> paidOutFor(30, 1));
        Tests.test("promise 19: 'the days 30 m to 30 m + 29', day 59 is of month 1", () -> paidOutFor(59, 1));
        Tests.test("promise 19: 'the days 30 m to 30 m + 29', day 60 is of month 2", () -> paidOutFor(60, 2));
        Tests.test("promise 19: 'the days 30 m to 30 m + 29', day 0 is of month 0", () -> paidOutFor(0, 0));
        Tests.test("promise 19: 'the number of closed months, minus 1', on day 29", () -> closedMonths(29, 0));
        Tests.test("promise 19: 'the number of closed months, minus 1', on day 30", () -> closedMonths(30, 1));
        Tests.test("promise 19: 'the number of closed months, minus 1', on day 59", () -> closedMonths(59, 1));
        Tests.test("promise 19: 'the number of closed months, minus 1', on day 60", () -> closedMonths(60, 2));
        Tests.test("promise 19: 'the number of closed months, minus 1', on day 3599", () -> closedMonths(3599, 119));
        Tests.test("promise 19: 'the number of closed months, minus 1', on day 3600", () -> closedMonths(3600, 120));
        Tests.test("promise 19: the last month of all is paid out", () -> paidOutFor(3599, 119));
        Tests.test("promise 19: 'a closed month', a refund behind it changes nothing", PayoutEdgesTest::closedStays);
    }

    private static void paidOutFor(int day, int month) {
        ShopPaymaster x = Shops.of(0, 1000);
        Shops.passTo(x, day);
        x.buy(0, 0);
        Shops.passTo(x, Math.min(3600, day + 60));
        for (int each = 0; each < x.day() / 30; each++) {
            Tests.due("payout for " + each, x.payout(0, each), each == month ? 850 : 0);
        }
    }

    private static void closedMonths(int day, int closed) {
        ShopPaymaster x = Shops.of(0, 1000);
        Shops.passTo(x, day);
        if (closed > 0) {
            Tests.due("the first", x.payout(0, 0), 0);
            Tests.due("the last", x.payout(0, closed - 1), 0);
        }
        Tests.badArgument(x, "month " + closed, () -> x.payout(0, closed));
        Tests.badArgument(x, "month -1", () -> x.payout(0, -1));
    }

    private static void closedStays() {
        ShopPaymaster x = Shops.of(0, 1000);
        x.buy(0, 0);
        x.pass(30);
        x.refund(0);
        x.pass(30);
        Tests.due("month 0", x.payout(0, 0), 850);
        Tests.due("month 1", x.payout(0, 1), 0);
    }

    private static void laterMakers() {
        Tests.test("promise 19: '0 if there was no such maker then', added on day 30", () -> makerAddedOn(30, 1));
        Tests.test("promise 19: 'no such maker then', added on day 29, there was one", () -> makerAddedOn(29, 0));
        Tests.test("promise 19: '0 if there was no such maker then', years later", () -> makerAddedOn(3599, 119));
    }

    private static void makerAddedOn(int day, int month) {
        ShopPaymaster x = Shops.of(0, 1000);
        x.buy(0, 0);
        Shops.passTo(x, day);
        x.addMaker(0);
        x.addProduct(1, 100);
        x.buy(1, 0);
        Tests.due("carried at first", x.carried(1), 0);
        Shops.passTo(x, 30 * (month + 1));
        Tests.due("payout for its first month", x.payout(1, month), 85);
        for (int each = 0; each < month; each++) {
            Tests.due("payout for " + each, x.payout(1, each), 0);
        }
    }

    private static void balances() {
        Tests.test("promise 21: 'if the month were closed now', what is paid out then",
                () -> balanceIsWhatCloses(1275, "1275 0"));
        Tests.test("promise 21: 'if the month were closed now', what is carried then",
                () -> balanceIsWhatCloses(1276, "0 1275"));
        Tests.test("promise 21: below 0", PayoutEdgesTest::balanceBelowZero);
        Tests.test("promise 21: of a maker without sales", PayoutEdgesTest::balanceOfNothing);
        Tests.test("promise 21: the highest sum that a month of buying comes to", PayoutEdgesTest::highestBalance);
    }

    private static void balanceIsWhatCloses(int threshold, String payoutAndCarried) {
        ShopPaymaster x = Shops.of(threshold, 1000);
        x.subscribe(0, 0, 7, true);
        x.subscribe(0, 0, 29, false);
        x.pass(6);
        Tests.due("on day 6", x.balance(0), 0);
        x.pass(1);
        Tests.due("on day 7", x.balance(0), 425);
        x.pass(22);
        Tests.due("on day 29", x.balance(0), 1275);
        x.pass(1);
        Tests.due("closed", Shops.payoutAndCarried(x, 0, 0), payoutAndCarried);
        Tests.due("on day 30", x.balance(0), x.carried(0));
    }

    private static void balanceBelowZero() {
        ShopPaymaster x = Shops.of(0, 1000);
        x.buy(0, 0);
        x.pass(30);
        x.refund(0);
        Tests.due("balance", x.balance(0), -850);
        Tests.due("carried", x.carried(0), 0);
    }

    private static void balanceOfNothing() {
        ShopPaymaster x = Shops.of(0, 1000);
        x.addMaker(0);
        x.buy(0, 0);
        Tests.due("balance", x.balance(1), 0);
        x.pass(30);
        Tests.due("payout and carried", Shops.payoutAndCarried(x, 1, 0), "0 0");
    }

    private static void highestBalance() {
        ShopPaymaster x = Shops.of(0, 100000);
        for (int i = 0; i < 500; i++) {
            x.buy(0, 0);
        }
        Tests.due("balance", x.balance(0), 10 * 85000 + 490 * 70000);
        x.pass(30);
        Tests.due("payout", x.payout(0, 0), 10 * 85000 + 490 * 70000);
    }

    private static void sums() {
        Tests.test("promise 22: 'held back for a land', the first and the last", PayoutEdgesTest::heldByLand);
        Tests.test("promise 22: 'less what was given back by refunds', down to 0", PayoutEdgesTest::heldGivenBack);
        Tests.test("promise 22: a tax that is passed on is not held", PayoutEdgesTest::heldOrPassedOn);
        Tests.test("promise 23: 'all shares of the shop', of all makers and months", PayoutEdgesTest::allShares);
        Tests.test("promise 23: 'less those given back by refunds', down to 0", PayoutEdgesTest::sharesGivenBack);
        Tests.test("promise 24: 'all paid prices', with the taxes", PayoutEdgesTest::allPrices);
        Tests.test("promise 24: 'less those given back by refunds', down to 0", PayoutEdgesTest::pricesGivenBack);
    }

    private static void heldByLand() {
        ShopPaymaster x = Shops.of(0, 130);
        for (int land = 0; land < 5; land++) {
            x.setTax(land, 30, true);
        }
        x.buy(0, 0);
        x.buy(0, 4);
        x.buy(0, 4);
        for (int land = 0; land < 5; land++) {
            Tests.due("held in " + land, x.heldTax(land), land == 0 ? 30 : land == 4 ? 60 : 0);
        }
    }

    private static void heldGivenBack() {
        ShopPaymaster x = Shops.of(0, 130);
        x.setTax(4, 30, true);
        x.buy(0, 4);
        x.buy(0, 4);
        x.refund(0);
        Tests.due("one", x.heldTax(4), 30);
        x.pass(30);
        x.refund(1);
        Tests.due("none", x.heldTax(4), 0);
    }

    private static void heldOrPassedOn() {
        ShopPaymaster x = Shops.of(0, 130);
        x.setTax(4, 30, false);
        x.buy(0, 4);
        Tests.due("passed on", x.heldTax(4), 0);
        x.setTax(4, 30, true);
        Tests.due("held for later ones alone", x.heldTax(4), 0);
        x.buy(0, 4);
        x.setTax(4, 30, false);
        Tests.due("held", x.heldTax(4), 30);
        x.refund(0);
        Tests.due("the one that was passed on is refunded", x.heldTax(4), 30);
        x.refund(1);
        Tests.due("the one that was held is refunded", x.heldTax(4), 0);
    }

    /** Two sales of two makers, in two months, with shares of 15 and 150. */
    private static ShopPaymaster twoSales() {
        ShopPaymaster x = Shops.of(0, 130);
        x.addMaker(0);
        x.addProduct(1, 1000);
        x.setTax(3, 30, true);
        x.buy(0, 3);
        x.pass(30);
        x.buy(1, 2);
        return x;
    }

    private static void allShares() {
        ShopPaymaster x = twoSales();
        Tests.due("shop", x.shop(), 165);
        x.pass(400);
        Tests.due("shop, a year later", x.shop(), 165);
    }

    private static void sharesGivenBack() {
        ShopPaymaster x = twoSales();
        x.refund(0);
        Tests.due("one", x.shop(), 150);
        x.refund(1);
        Tests.due("none", x.shop(), 0);
    }

    private static void allPrices() {
        ShopPaymaster x = twoSales();
        Tests.due("takings", x.takings(), 1130);
        x.pass(400);
        Tests.due("takings, a year later", x.takings(), 1130);
    }

    private static void pricesGivenBack() {
        ShopPaymaster x = twoSales();
        x.refund(1);
        Tests.due("one", x.takings(), 130);
        x.refund(0);
        Tests.due("none", x.takings(), 0);
    }
}
