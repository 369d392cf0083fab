/** Promises 19 to 24: payouts, carried sums, balances and the sums of the shop. */
public final class PayoutTest {
    public static void main(String[] args) {
        Tests.test("promise 19: payout at the threshold", PayoutTest::atThreshold);
        Tests.test("promise 19: payout of a maker that was added later", PayoutTest::laterMaker);
        Tests.test("promise 19: payouts of all months stay", PayoutTest::allMonths);
        Tests.test("promise 19: payout refuses", PayoutTest::payoutRefused);
        Tests.test("promise 20: carried below the threshold", PayoutTest::carriedBelow);
        Tests.test("promise 20: nothing is paid out at 0", PayoutTest::nothingAtZero);
        Tests.test("promise 21: balance of the open month", PayoutTest::openBalance);
        Tests.test("promises 20 and 21: no such maker", PayoutTest::noSuchMaker);
        Tests.test("promise 22: heldTax", PayoutTest::held);
        Tests.test("promise 22: heldTax refuses", PayoutTest::heldRefused);
        Tests.test("promises 23 and 24: shop and takings", PayoutTest::sums);
        Tests.end();
    }

    private static ShopPaymaster shop(int threshold, int price) {
        ShopPaymaster x = new ShopPaymaster();
        x.addMaker(threshold);
        x.addProduct(0, price);
        return x;
    }

    private static void atThreshold() {
        ShopPaymaster x = shop(850, 1000);
        x.addMaker(851);
        x.addProduct(1, 1000);
        x.buy(0, 0);
        x.buy(1, 0);
        x.pass(30);
        Tests.due("at the threshold", x.payout(0, 0), 850);
        Tests.due("carried", x.carried(0), 0);
        Tests.due("below it", x.payout(1, 0), 0);
        Tests.due("carried", x.carried(1), 850);
        x.setPrice(1, 0, 1);
        x.buy(1, 0);
        x.pass(30);
        Tests.due("with what was carried", x.payout(1, 1), 851);
        Tests.due("carried", x.carried(1), 0);
        Tests.due("an empty month", x.payout(0, 1), 0);
    }

    private static void laterMaker() {
        ShopPaymaster x = shop(0, 1000);
        x.pass(65);
        x.addMaker(0);
        x.addProduct(1, 200);
        x.buy(1, 0);
        Tests.due("month 0", x.payout(1, 0), 0);
        Tests.due("month 1", x.payout(1, 1), 0);
        x.pass(25);
        Tests.due("month 1", x.payout(1, 1), 0);
        Tests.due("month 2", x.payout(1, 2), 170);
    }

    private static void allMonths() {
        ShopPaymaster x = shop(0, 0);
        for (int month = 0; month < 120; month++) {
            x.setPrice(0, 0, 20 * (month + 1));
            x.buy(0, 0);
            x.pass(30);
        }
        Tests.due("day", x.day(), 3600);
        for (int month = 0; month < 120; month++) {
            Tests.due("month " + month, x.payout(0, month), 17 * (month + 1));
        }
    }

    private static void payoutRefused() {
        ShopPaymaster x = shop(0, 1000);
        Tests.badArgument(x, "no closed month", () -> x.payout(0, 0));
        x.pass(29);
        Tests.badArgument(x, "no closed month on day 29", () -> x.payout(0, 0));
        x.pass(1);
        Tests.due("on day 30", x.payout(0, 0), 0);
        Tests.badArgument(x, "month 1", () -> x.payout(0, 1));
        Tests.badArgument(x, "month -1", () -> x.payout(0, -1));
        Tests.noSuch(x, "maker 1", () -> x.payout(1, 0));
        Tests.noSuch(x, "maker -1", () -> x.payout(-1, 0));
        Tests.noSuch(x, "the maker comes first", () -> x.payout(1, -1));
    }

    private static void carriedBelow() {
        ShopPaymaster x = shop(2000, 1000);
        Tests.due("at first", x.carried(0), 0);
        x.buy(0, 0);
        Tests.due("not before the close", x.carried(0), 0);
        x.pass(30);
        Tests.due("month 0", x.carried(0), 850);
        x.buy(0, 0);
        Tests.due("the open month is left out", x.carried(0), 850);
        x.pass(30);
        Tests.due("month 1", x.carried(0), 1700);
        x.pass(30);
        Tests.due("month 2", x.carried(0), 1700);
        x.refund(0);
        x.refund(1);
        x.pass(30);
        Tests.due("month 3", x.carried(0), 0);
    }

    private static void nothingAtZero() {
        ShopPaymaster x = shop(0, 1000);
        x.buy(0, 0);
        x.refund(0);
        x.pass(30);
        Tests.due("payout", x.payout(0, 0), 0);
        Tests.due("carried", x.carried(0), 0);
        x.buy(0, 0);
        x.pass(30);
        x.refund(1);
        x.pass(30);
        Tests.due("payout below 0", x.payout(0, 2), 0);
        Tests.due("carried below 0", x.carried(0), -850);
        x.buy(0, 0);
        x.pass(30);
        Tests.due("payout at 0", x.payout(0, 3), 0);
        Tests.due("carried", x.carried(0), 0);
    }

    private static void openBalance() {
        ShopPaymaster x = shop(1000, 1000);
        Tests.due("at first", x.balance(0), 0);
        x.buy(0, 0);
        Tests.due("one sale", x.balance(0), 850);
        x.pass(30);
        Tests.due("carried", x.balance(0), 850);
        x.buy(0, 0);
        Tests.due("carried and a sale", x.balance(0), 1700);
        x.refund(0);
        Tests.due("less what is taken back", x.balance(0), 850);
        x.buy(0, 0);
        x.pass(30);
        Tests.due("paid out", x.balance(0), 0);
        Tests.due("payout", x.payout(0, 1), 1700);
    }

    private static void noSuchMaker() {
        ShopPaymaster x = shop(0, 1);
        for (int maker : new int[] {-1, 1, Integer.MIN_VALUE, Integer.MAX_VALUE}) {
            Tests.noSuch(x, "carried", () -> x.carried(maker));
            Tests.noSuch(x, "balance", () -> x.balance(maker));
        }
    }

    private static void held() {
        ShopPaymaster x = shop(0, 1200);
        x.setTax(0, 20, true);
        x.setTax(1, 20, true);
        x.setTax(2, 20, false);
        x.buy(0, 0);
        x.buy(0, 0);
        x.buy(0, 1);
        x.buy(0, 2);
        Tests.due("land 0", x.heldTax(0), 400);
        Tests.due("land 1", x.heldTax(1), 200);
        Tests.due("land 2", x.heldTax(2), 0);
        Tests.due("land 4", x.heldTax(4), 0);
        x.pass(30);
        Tests.due("a close leaves it", x.heldTax(0), 400);
        x.refund(0);
        x.refund(3);
        Tests.due("after a refund", x.heldTax(0), 200);
        Tests.due("land 2 after a refund", x.heldTax(2), 0);
    }

    private static void heldRefused() {
        ShopPaymaster x = shop(0, 1200);
        Tests.badArgument(x, "land -1", () -> x.heldTax(-1));
        Tests.badArgument(x, "land 5", () -> x.heldTax(5));
    }

    private static void sums() {
        ShopPaymaster x = shop(0, 1200);
        x.addMaker(0);
        x.addProduct(1, 100);
        x.setTax(0, 20, true);
        Tests.due("shop at first", x.shop(), 0);
        Tests.due("takings at first", x.takings(), 0);
        x.buy(0, 0);
        x.buy(1, 1);
        x.subscribe(1, 1, 1, true);
        x.pass(31);
        Tests.due("shop", x.shop(), 150 + 15 + 7 + 15);
        Tests.due("takings", x.takings(), 1200 + 100 + 50 + 100);
        x.refund(0);
        Tests.due("shop after a refund", x.shop(), 37);
        Tests.due("takings after a refund", x.takings(), 250);
    }
}
