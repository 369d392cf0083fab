/** Promises 6 to 12: sales, their parts, and refunds. */
public final class SalesTest {
    public static void main(String[] args) {
        Tests.test("promise 6: buy numbers the sales", SalesTest::bought);
        Tests.test("promise 6: buy refuses", SalesTest::buyRefused);
        Tests.test("promise 7: refund gives all back", SalesTest::refunded);
        Tests.test("promise 7: refund gives back what held when the sale was made", SalesTest::refundAfterChange);
        Tests.test("promise 7: refund within 3 months", SalesTest::refundMonths);
        Tests.test("promise 7: refund takes back in its own month", SalesTest::refundAfterPayout);
        Tests.test("promise 7: refund of a payment", SalesTest::refundOfPayment);
        Tests.test("promise 7: refund refuses", SalesTest::refundRefused);
        Tests.test("promise 8: sales counts all sales", SalesTest::salesCounted);
        Tests.test("promises 9 to 12: parts, rounded down", SalesTest::parts);
        Tests.test("promises 9 to 12: parts stay after a refund and after changes", SalesTest::partsStay);
        Tests.test("promises 9 to 12: no such sale", SalesTest::noSuchSale);
        Tests.test("promise 11: the share falls below a sum of nets", SalesTest::shareBelowSum);
        Tests.test("promise 11: nets, not prices, are summed", SalesTest::shareByNets);
        Tests.test("promise 11: the sum is of one maker", SalesTest::shareByMaker);
        Tests.test("promise 11: refunded sales stay in the sum", SalesTest::shareWithRefunds);
        Tests.test("promise 11: the sum begins anew each year", SalesTest::shareByYear);
        Tests.test("promise 11: the share falls from the 13th payment on", SalesTest::shareAfterYear);
        Tests.test("promise 11: payments count for the sum", SalesTest::shareByPayments);
        Tests.test("promise 12: the part with the tax held or passed on", SalesTest::partByTax);
        Tests.end();
    }

    private static ShopPaymaster shop(int price) {
        ShopPaymaster x = new ShopPaymaster();
        x.addMaker(0);
        x.addProduct(0, price);
        return x;
    }

    private static void buyTimes(ShopPaymaster x, int product, int times) {
        for (int i = 0; i < times; i++) {
            x.buy(product, 0);
        }
    }

    private static void bought() {
        ShopPaymaster x = shop(1000);
        x.addProduct(0, 300);
        Tests.due("first", x.buy(0, 0), 0);
        Tests.due("second", x.buy(1, 4), 1);
        Tests.due("third", x.buy(0, 0), 2);
        Tests.due("paid", x.paid(0), 1000);
        Tests.due("paid", x.paid(1), 300);
        Tests.due("takings", x.takings(), 2300);
        Tests.due("balance", x.balance(0), 850 + 255 + 850);
        x.subscribe(0, 0, 1, false);
        x.pass(1);
        Tests.due("after a payment", x.buy(0, 0), 4);
    }

    private static void buyRefused() {
        ShopPaymaster x = shop(1000);
        Tests.noSuch(x, "product 1", () -> x.buy(1, 0));
        Tests.noSuch(x, "product -1", () -> x.buy(-1, 0));
        Tests.noSuch(x, "the product comes first", () -> x.buy(1, 5));
        Tests.badArgument(x, "land 5", () -> x.buy(0, 5));
        Tests.badArgument(x, "land -1", () -> x.buy(0, -1));
        Tests.due("the first sale", x.buy(0, 0), 0);
    }

    private static void refunded() {
        ShopPaymaster x = shop(1200);
        x.setTax(0, 20, true);
        String before = "day 0 shop 0 takings 0 held 0 held 0 held 0 held 0 held 0"
                + " sale 1200 200 150 850 maker 0 0";
        x.buy(0, 0);
        Tests.due("refund", x.refund(0), 1200);
        Tests.due("state", State.of(x), before);
        Tests.badState(x, "a second refund", () -> x.refund(0));
    }

    private static void refundAfterChange() {
        ShopPaymaster x = shop(1200);
        x.setTax(0, 20, true);
        x.setTax(1, 20, false);
        x.buy(0, 0);
        x.buy(0, 1);
        x.setTax(0, 0, false);
        x.setTax(1, 30, true);
        x.setPrice(0, 0, 5);
        x.setPrice(0, 1, 5);
        Tests.due("refund of held", x.refund(0), 1200);
        Tests.due("held 0", x.heldTax(0), 0);
        Tests.due("balance", x.balance(0), 1050);
        Tests.due("shop", x.shop(), 150);
        Tests.due("refund of passed on", x.refund(1), 1200);
        Tests.due("held 1", x.heldTax(1), 0);
        Tests.due("balance", x.balance(0), 0);
        Tests.due("shop", x.shop(), 0);
        Tests.due("takings", x.takings(), 0);
    }

    private static void refundMonths() {
        ShopPaymaster x = shop(1000);
        buyTimes(x, 0, 2);
        x.pass(29);
        buyTimes(x, 0, 2);
        x.pass(1);
        x.buy(0, 0);
        x.pass(89);
        Tests.due("day", x.day(), 119);
        Tests.due("first day of the month, 3 months ago", x.refund(0), 1000);
        Tests.due("last day of the month, 3 months ago", x.refund(2), 1000);
        x.pass(1);
        Tests.badState(x, "first day, 4 months ago", () -> x.refund(1));
        Tests.badState(x, "last day, 4 months ago, 91 days", () -> x.refund(3));
        Tests.due("the month behind, 90 days", x.refund(4), 1000);
        Tests.badState(x, "refunded, and too long ago", () -> x.refund(0));
    }

    private static void refundAfterPayout() {
        ShopPaymaster x = shop(1000);
        x.buy(0, 0);
        x.pass(30);
        Tests.due("payout", x.payout(0, 0), 850);
        x.refund(0);
        Tests.due("balance", x.balance(0), -850);
        Tests.due("payout stays", x.payout(0, 0), 850);
        x.pass(30);
        Tests.due("payout of month 1", x.payout(0, 1), 0);
        Tests.due("carried below 0", x.carried(0), -850);
        buyTimes(x, 0, 3);
        x.pass(30);
        Tests.due("payout of month 2", x.payout(0, 2), 1700);
        Tests.due("carried", x.carried(0), 0);
    }

    private static void refundOfPayment() {
        ShopPaymaster x = shop(1000);
        x.subscribe(0, 3, 2, true);
        x.pass(2);
        Tests.due("refund", x.refund(0), 500);
        Tests.due("payments", x.payments(0), 1);
        Tests.due("next", x.next(0), 32);
        Tests.due("takings", x.takings(), 0);
        x.pass(30);
        Tests.due("second payment", x.paid(1), 1000);
    }

    private static void refundRefused() {
        ShopPaymaster x = shop(1000);
        Tests.noSuch(x, "sale 0", () -> x.refund(0));
        x.buy(0, 0);
        Tests.noSuch(x, "sale 1", () -> x.refund(1));
        Tests.noSuch(x, "sale -1", () -> x.refund(-1));
        x.pass(120);
        Tests.badState(x, "too long ago", () -> x.refund(0));
        x.setPrice(0, 0, 0);
        x.buy(0, 0);
        Tests.due("refund of nothing", x.refund(1), 0);
        Tests.badState(x, "nothing is refunded once", () -> x.refund(1));
    }

    private static void salesCounted() {
        ShopPaymaster x = shop(0);
        Tests.due("none", x.sales(), 0);
        buyTimes(x, 0, 3);
        Tests.due("three", x.sales(), 3);
        x.refund(1);
        Tests.due("refunded ones stay", x.sales(), 3);
        x.subscribe(0, 0, 1, false);
        Tests.due("beginning is no sale", x.sales(), 3);
        x.pass(31);
        Tests.due("payments are sales", x.sales(), 5);
        x.setFailing(0, true);
        x.pass(30);
        Tests.due("failed ones are none", x.sales(), 5);
    }

    private static void parts() {
        ShopPaymaster x = shop(999);
        x.setTax(0, 7, true);
        x.setTax(1, 30, true);
        x.buy(0, 0);
        // 999 * 7 / 107 = 65.35; 934 * 15 / 100 = 140.1
        Tests.due("paid", x.paid(0), 999);
        Tests.due("tax", x.tax(0), 65);
        Tests.due("share", x.shopShare(0), 140);
        Tests.due("part", x.makerPart(0), 794);
        x.setPrice(0, 1, 1);
        x.buy(0, 1);
        Tests.due("tax of 1", x.tax(1), 0);
        Tests.due("share of 1", x.shopShare(1), 0);
        Tests.due("part of 1", x.makerPart(1), 1);
        x.setPrice(0, 1, 100000);
        x.buy(0, 1);
        // 100000 * 30 / 130 = 23076.9; 76924 * 15 / 100 = 11538.6
        Tests.due("tax of 100000", x.tax(2), 23076);
        Tests.due("share of 100000", x.shopShare(2), 11538);
        Tests.due("part of 100000", x.makerPart(2), 65386);
    }

    private static void partsStay() {
        ShopPaymaster x = shop(1200);
        x.setTax(0, 20, false);
        x.buy(0, 0);
        x.setTax(0, 5, true);
        x.setPrice(0, 0, 7);
        x.refund(0);
        x.pass(400);
        Tests.due("paid", x.paid(0), 1200);
        Tests.due("tax", x.tax(0), 200);
        Tests.due("share", x.shopShare(0), 150);
        Tests.due("part", x.makerPart(0), 1050);
    }

    private static void noSuchSale() {
        for (int sale : new int[] {-1, 1, Integer.MIN_VALUE, Integer.MAX_VALUE}) {
            ShopPaymaster x = shop(1);
            x.buy(0, 0);
            Tests.noSuch(x, "paid", () -> x.paid(sale));
            Tests.noSuch(x, "tax", () -> x.tax(sale));
            Tests.noSuch(x, "shopShare", () -> x.shopShare(sale));
            Tests.noSuch(x, "makerPart", () -> x.makerPart(sale));
        }
    }

    private static void shareBelowSum() {
        ShopPaymaster x = shop(100000);
        buyTimes(x, 0, 9);
        x.setPrice(0, 0, 99999);
        x.buy(0, 0);
        x.setPrice(0, 0, 1000);
        x.buy(0, 0);
        Tests.due("after 900000", x.shopShare(9), 14999);
        Tests.due("after 999999", x.shopShare(10), 150);
        Tests.due("after 1000999", x.shopShare(x.buy(0, 0)), 300);

        ShopPaymaster y = shop(100000);
        buyTimes(y, 0, 11);
        Tests.due("after 1000000", y.shopShare(10), 30000);
        Tests.due("part after 1000000", y.makerPart(10), 70000);
    }

    private static void shareByNets() {
        ShopPaymaster x = shop(100000);
        x.setTax(0, 25, false);
        buyTimes(x, 0, 13);
        Tests.due("net", x.paid(0) - x.tax(0), 80000);
        Tests.due("after nets of 960000", x.shopShare(12), 12000);
        Tests.due("after nets of 1040000", x.shopShare(x.buy(0, 0)), 24000);
    }

    private static void shareByMaker() {
        ShopPaymaster x = shop(100000);
        x.addMaker(0);
        x.addProduct(1, 1000);
        x.addProduct(0, 1000);
        buyTimes(x, 0, 10);
        Tests.due("another product of the maker", x.shopShare(x.buy(2, 0)), 300);
        Tests.due("a product of another maker", x.shopShare(x.buy(1, 0)), 150);
    }

    private static void shareWithRefunds() {
        ShopPaymaster x = shop(100000);
        buyTimes(x, 0, 10);
        for (int sale = 0; sale < 10; sale++) {
            x.refund(sale);
        }
        Tests.due("share", x.shopShare(x.buy(0, 0)), 30000);
    }

    private static void shareByYear() {
        ShopPaymaster x = shop(100000);
        x.pass(359);
        buyTimes(x, 0, 10);
        Tests.due("on day 359", x.shopShare(x.buy(0, 0)), 30000);
        x.pass(1);
        Tests.due("on day 360", x.shopShare(x.buy(0, 0)), 15000);
        buyTimes(x, 0, 9);
        Tests.due("the sum grows again", x.shopShare(x.buy(0, 0)), 30000);
        x.pass(359);
        Tests.due("on day 719", x.shopShare(x.buy(0, 0)), 30000);
        x.pass(1);
        Tests.due("on day 720", x.shopShare(x.buy(0, 0)), 15000);
        buyTimes(x, 0, 8);
        x.setPrice(0, 0, 99999);
        x.buy(0, 0);
        Tests.due("after 999999 of a later year", x.shopShare(x.buy(0, 0)), 14999);
    }

    private static void shareAfterYear() {
        ShopPaymaster x = shop(100000);
        x.addProduct(0, 1000);
        x.subscribe(1, 0, 10, false);
        x.pass(369);
        Tests.due("payments", x.payments(0), 12);
        x.buy(0, 0);
        buyTimes(x, 0, 9);
        x.subscribe(1, 0, 1, false);
        x.pass(1);
        Tests.due("payments", x.payments(0), 13);
        Tests.due("the 13th payment", x.shopShare(22), 150);
        Tests.due("a first payment", x.shopShare(23), 300);
        x.pass(30);
        Tests.due("the 14th payment", x.shopShare(24), 150);

        ShopPaymaster y = shop(100000);
        y.addProduct(0, 1000);
        y.subscribe(1, 0, 10, false);
        y.pass(339);
        buyTimes(y, 0, 10);
        y.pass(1);
        Tests.due("payments", y.payments(0), 12);
        Tests.due("the 12th payment", y.shopShare(21), 300);
    }

    private static void shareByPayments() {
        ShopPaymaster x = shop(100000);
        for (int i = 0; i < 11; i++) {
            x.subscribe(0, 0, 1, false);
        }
        x.pass(1);
        Tests.due("the tenth", x.shopShare(9), 15000);
        Tests.due("the eleventh", x.shopShare(10), 30000);
    }

    private static void partByTax() {
        ShopPaymaster x = shop(1200);
        Tests.due("tax 0", x.makerPart(x.buy(0, 0)), 1020);
        x.setTax(0, 20, true);
        Tests.due("held", x.makerPart(x.buy(0, 0)), 850);
        x.setTax(0, 20, false);
        Tests.due("passed on", x.makerPart(x.buy(0, 0)), 1050);
    }
}
