/** Promises 6 to 12, and 'Sales' and the refunds of the terms: the boundary cases, a test for each sentence. */
public final class SalesEdgesTest {
    public static void main(String[] args) {
        buying();
        rounding();
        sumOfNets();
        year();
        thirteenth();
        refundMonths();
        refundSums();
        answers();
        Tests.end();
    }

    private static void buying() {
        Tests.test("promise 6: the first and the last product, in the first and the last land", SalesEdgesTest::bought);
        Tests.test("promise 6: a sale of 0 cents is a sale", SalesEdgesTest::boughtForNothing);
        Tests.test("promise 6: sales on the first and the last day", SalesEdgesTest::boughtOnLastDay);
    }

    private static void bought() {
        ShopPaymaster x = new ShopPaymaster();
        x.addMaker(0);
        for (int product = 0; product < 20; product++) {
            x.addProduct(0, 100 + product);
        }
        Tests.due("first", x.buy(0, 0), 0);
        Tests.due("last", x.buy(19, 4), 1);
        Tests.due("paid for the first", x.paid(0), 100);
        Tests.due("paid for the last", x.paid(1), 119);
    }

    private static void boughtForNothing() {
        ShopPaymaster x = Shops.of(0, 0);
        x.setTax(0, 30, true);
        Tests.due("sale", x.buy(0, 0), 0);
        Tests.due("next sale", x.buy(0, 0), 1);
        Tests.due("parts", Shops.parts(x, 1), "0 0 0 0");
        Tests.due("sales", x.sales(), 2);
    }

    private static void boughtOnLastDay() {
        ShopPaymaster x = Shops.of(0, 1000);
        Tests.due("on day 0", x.buy(0, 0), 0);
        Shops.passTo(x, 3600);
        Tests.due("on day 3600", x.buy(0, 0), 1);
        Tests.due("refund on day 3600", x.refund(1), 1000);
    }

    private static void rounding() {
        Tests.test("promise 10: 'price * rate / (100 + rate)', rounded down", SalesEdgesTest::taxRounded);
        Tests.test("promise 10: the tax at the highest rate and price", () -> sold(30, 100000,
                "100000 23076 11538 65386"));
        Tests.test("promise 10: the tax at the rate 0", () -> sold(0, 100000, "100000 0 15000 85000"));
        Tests.test("promise 10: the tax of a price of 0", () -> sold(30, 0, "0 0 0 0"));
        Tests.test("promise 10: the tax of a price of 1", () -> sold(30, 1, "1 0 0 1"));
        Tests.test("promise 11: 'net * 15 / 100', rounded down", SalesEdgesTest::lowShareRounded);
        Tests.test("promise 11: 'net * 30 / 100', rounded down", SalesEdgesTest::fullShareRounded);
        Tests.test("promise 11: the share is of the net, not of the price", () -> sold(10, 110, "110 10 15 85"));
        Tests.test("promise 12: 'the net less the share', all that rounding leaves", SalesEdgesTest::partRounded);
        Tests.test("promise 12: the tax besides, if it is passed on", SalesEdgesTest::taxPassedOn);
    }

    private static void sold(int rate, int price, String parts) {
        ShopPaymaster x = Shops.of(0, 1);
        x.setTax(3, rate, true);
        Tests.due("parts", Shops.sold(x, 0, 3, price), parts);
    }

    private static void taxRounded() {
        sold(30, 129, "129 29 15 85");
        sold(30, 130, "130 30 15 85");
        sold(30, 134, "134 30 15 89");
        sold(30, 135, "135 31 15 89");
        sold(1, 100, "100 0 15 85");
        sold(1, 101, "101 1 15 85");
    }

    private static void lowShareRounded() {
        sold(0, 6, "6 0 0 6");
        sold(0, 7, "7 0 1 6");
        sold(0, 99, "99 0 14 85");
        sold(0, 100, "100 0 15 85");
        sold(0, 106, "106 0 15 91");
        sold(0, 107, "107 0 16 91");
    }

    private static void fullShareRounded() {
        ShopPaymaster x = Shops.of(0, 1);
        Shops.sellNets(x, 0, 1000000);
        Tests.due("of 3", Shops.sold(x, 0, 0, 3), "3 0 0 3");
        Tests.due("of 4", Shops.sold(x, 0, 0, 4), "4 0 1 3");
        Tests.due("of 99", Shops.sold(x, 0, 0, 99), "99 0 29 70");
        Tests.due("of 100", Shops.sold(x, 0, 0, 100), "100 0 30 70");
        Tests.due("of 103", Shops.sold(x, 0, 0, 103), "103 0 30 73");
        Tests.due("of 104", Shops.sold(x, 0, 0, 104), "104 0 31 73");
    }

    private static void partRounded() {
        ShopPaymaster x = Shops.of(0, 1);
        x.setTax(0, 19, true);
        for (int sale = 0; sale < 40; sale++) {
            x.setPrice(0, 0, 3 * sale);
            x.buy(0, 0);
            Tests.due("all parts of " + x.paid(sale), x.tax(sale) + x.shopShare(sale) + x.makerPart(sale), 3 * sale);
        }
    }

    private static void taxPassedOn() {
        ShopPaymaster x = Shops.of(0, 1);
        x.setTax(3, 30, false);
        Tests.due("of 1", Shops.sold(x, 0, 3, 1), "1 0 0 1");
        Tests.due("of 129", Shops.sold(x, 0, 3, 129), "129 29 15 114");
        Tests.due("of 100000", Shops.sold(x, 0, 3, 100000), "100000 23076 11538 88462");
        Tests.due("held", x.heldTax(3), 0);
    }

    private static void sumOfNets() {
        Tests.test("promise 11: 'less than 1000000 together', 999999", () -> shareAfter(999999, 150));
        Tests.test("promise 11: 'less than 1000000 together', 1000000", () -> shareAfter(1000000, 300));
        Tests.test("promise 11: 'less than 1000000 together', 1000001", () -> shareAfter(1000001, 300));
        Tests.test("promise 11: 'all earlier sales', none", () -> shareAfter(0, 150));
        Tests.test("promise 11: 'all earlier sales', the sale itself is none", SalesEdgesTest::saleItself);
        Tests.test("promise 11: 'the nets', without the tax that is held back", () -> shareByNets(true));
        Tests.test("promise 11: 'the nets', without the tax that is passed on too", () -> shareByNets(false));
        Tests.test("promise 11: 'of the maker', in all lands and of all products", SalesEdgesTest::allOfMaker);
        Tests.test("promise 11: 'of the maker', and of no other", SalesEdgesTest::noOtherMaker);
        Tests.test("promise 11: 'refunded ones included', at 1000000", SalesEdgesTest::refundedIncluded);
        Tests.test("promise 11: 'refunded ones included', once, at 999999", SalesEdgesTest::refundedOnce);
    }

    private static void shareAfter(int nets, int share) {
        ShopPaymaster x = Shops.of(0, 1);
        Shops.sellNets(x, 0, nets);
        Tests.due("parts", Shops.sold(x, 0, 0, 1000), "1000 0 " + share + " " + (1000 - share));
    }

    private static void saleItself() {
        ShopPaymaster x = Shops.of(0, 1);
        Shops.sellNets(x, 0, 900000);
        Tests.due("up to 1000000", Shops.sold(x, 0, 0, 100000), "100000 0 15000 85000");
        Tests.due("behind it", Shops.sold(x, 0, 0, 100000), "100000 0 30000 70000");
    }

    private static void shareByNets(boolean isHeld) {
        Tests.due("after 999999", partsBehindTaxed(isHeld, 899999), "1000 0 150 850");
        Tests.due("after 1000000", partsBehindTaxed(isHeld, 900000), "1000 0 300 700");
    }

    /** A sale of 1000 behind nets of that sum, and of 80000 and 20000 with taxes of 20000 and 5000. */
    private static String partsBehindTaxed(boolean isHeld, int nets) {
        ShopPaymaster x = Shops.of(0, 1);
        Shops.sellNets(x, 0, nets);
        x.setTax(1, 25, isHeld);
        Shops.sold(x, 0, 1, 100000);
        Shops.sold(x, 0, 1, 25000);
        return Shops.sold(x, 0, 0, 1000);
    }

    private static void allOfMaker() {
        ShopPaymaster x = Shops.of(0, 1, 2);
        Shops.sellNets(x, 1, 900000);
        Shops.sold(x, 1, 4, 99999);
        Tests.due("after 999999", Shops.sold(x, 0, 2, 1000), "1000 0 150 850");
        Tests.due("after more", Shops.sold(x, 0, 3, 1000), "1000 0 300 700");
    }

    private static void noOtherMaker() {
        ShopPaymaster x = Shops.of(0, 1);
        x.addMaker(0);
        x.addProduct(1, 2);
        Shops.sellNets(x, 0, 1000000);
        Shops.sellNets(x, 1, 999999);
        Tests.due("of the other one, after 999999", Shops.sold(x, 1, 0, 1000), "1000 0 150 850");
        Tests.due("of the other one, after more", Shops.sold(x, 1, 0, 1000), "1000 0 300 700");
        Tests.due("of the first one", Shops.sold(x, 0, 0, 1000), "1000 0 300 700");
    }

    private static void refundedIncluded() {
        ShopPaymaster x = Shops.of(0, 1);
        Shops.sellNets(x, 0, 1000000);
        for (int sale = 0; sale < x.sales(); sale++) {
            x.refund(sale);
        }
        Tests.due("balance", x.balance(0), 0);
        Tests.due("parts", Shops.sold(x, 0, 0, 1000), "1000 0 300 700");
    }

    private static void refundedOnce() {
        ShopPaymaster x = Shops.of(0, 1);
        Shops.sellNets(x, 0, 999999);
        x.refund(0);
        Tests.due("parts", Shops.sold(x, 0, 0, 1000), "1000 0 150 850");
    }

    private static void year() {
        Tests.test("promise 11: 'the 360 days from 360 y on', day 359 is of the first", () -> shareOn(0, 359, 300));
        Tests.test("promise 11: 'the 360 days from 360 y on', day 360 is not", () -> shareOn(0, 360, 150));
        Tests.test("promise 11: 'the 360 days from 360 y on', the day before is", () -> shareOn(359, 360, 150));
        Tests.test("promise 11: 'the 360 days from 360 y on', 360 to 719", () -> shareOn(360, 719, 300));
        Tests.test("promise 11: 'the 360 days from 360 y on', 719 to 720", () -> shareOn(719, 720, 150));
        Tests.test("promise 11: 'the 360 days from 360 y on', the last whole year", () -> shareOn(3240, 3599, 300));
        Tests.test("promise 11: 'the 360 days from 360 y on', the last day alone", () -> shareOn(3599, 3600, 150));
        Tests.test("promise 11: 'the 360 days from 360 y on', within the last day", () -> shareOn(3600, 3600, 300));
        Tests.test("promise 11: a month's close is not a year's", () -> shareOn(29, 30, 300));
        Tests.test("promise 11: the year begins ahead of its first payment", SalesEdgesTest::paymentOfNewYear);
        Tests.test("promise 11: the first payment of a year counts in it", SalesEdgesTest::newYearSum);
    }

    /** Nets of 1000000 on one day, and the share of a net of 1000 on another. */
    private static void shareOn(int soldDay, int day, int share) {
        ShopPaymaster x = Shops.of(0, 1);
        Shops.passTo(x, soldDay);
        Shops.sellNets(x, 0, 1000000);
        Shops.passTo(x, day);
        Tests.due("parts", Shops.sold(x, 0, 0, 1000), "1000 0 " + share + " " + (1000 - share));
    }

    private static void paymentOfNewYear() {
        ShopPaymaster x = Shops.of(0, 1, 1000);
        Shops.passTo(x, 358);
        x.subscribe(1, 0, 1, false);
        x.subscribe(1, 0, 2, false);
        Shops.sellNets(x, 0, 1000000);
        x.pass(1);
        Tests.due("on day 359", Shops.lastParts(x), "1000 0 300 700");
        x.pass(1);
        Tests.due("on day 360", Shops.lastParts(x), "1000 0 150 850");
    }

    private static void newYearSum() {
        Tests.due("after 999999", partsBehindPayment(999899), "1000 0 150 850");
        Tests.due("after 1000000", partsBehindPayment(999900), "1000 0 300 700");
    }

    /** A sale of 1000 behind a payment of 100, the first sale of the second year, and behind nets of that sum. */
    private static String partsBehindPayment(int nets) {
        ShopPaymaster x = Shops.of(0, 1, 100);
        Shops.passTo(x, 359);
        x.subscribe(1, 0, 1, false);
        x.pass(1);
        Shops.sellNets(x, 0, nets);
        return Shops.sold(x, 0, 0, 1000);
    }

    private static void thirteenth() {
        Tests.test("promise 11: 'the 13th payment', the 12th", () -> paymentAboveSum(12, 300));
        Tests.test("promise 11: 'the 13th payment'", () -> paymentAboveSum(13, 150));
        Tests.test("promise 11: 'or a later one', the 14th", () -> paymentAboveSum(14, 150));
        Tests.test("promise 11: 'or a later one', the 100th", () -> paymentAboveSum(100, 150));
        Tests.test("promise 11: 'the 13th payment', failed tries are none", SalesEdgesTest::failedTries);
        Tests.test("promise 11: 'the 13th payment', refunded and moved ones count", SalesEdgesTest::movedPayments);
        Tests.test("promise 11: 'the 13th payment' of one subscription", SalesEdgesTest::ofOneSubscription);
        Tests.test("promise 11: 'all earlier sales', 13th payments too", SalesEdgesTest::latePaymentsCount);
    }

    /** The share of a payment of 1000 in a month in which the nets come to 1000000 ahead of it. */
    private static void paymentAboveSum(int payment, int share) {
        ShopPaymaster x = Shops.of(0, 1, 1000);
        x.subscribe(1, 0, 15, false);
        int due = 15 + 30 * (payment - 1);
        Shops.passTo(x, due - 1);
        Shops.sellNets(x, 0, 1000000);
        x.pass(1);
        Tests.due("payments", x.payments(0), payment);
        Tests.due("parts", Shops.lastParts(x), "1000 0 " + share + " " + (1000 - share));
    }

    private static void failedTries() {
        ShopPaymaster x = Shops.of(0, 1, 1000);
        x.subscribe(1, 0, 15, false);
        Shops.passTo(x, 344);
        x.setFailing(0, true);
        x.pass(5);
        x.setFailing(0, false);
        Shops.sellNets(x, 0, 1000000);
        x.pass(1);
        Tests.due("payments", x.payments(0), 12);
        Tests.due("the 12th, at its sixth try", Shops.lastParts(x), "1000 0 300 700");
    }

    private static void movedPayments() {
        ShopPaymaster x = Shops.of(0, 1, 1000, 2000);
        x.subscribe(1, 0, 15, true);
        x.pass(15);
        x.refund(0);
        x.move(0, 2);
        Shops.passTo(x, 374);
        Shops.sellNets(x, 0, 1000000);
        x.pass(1);
        Tests.due("payments", x.payments(0), 13);
        Tests.due("the 13th", Shops.lastParts(x), "2000 0 300 1700");
    }

    private static void ofOneSubscription() {
        ShopPaymaster x = Shops.of(0, 1, 1000);
        for (int subscription = 0; subscription < 7; subscription++) {
            x.subscribe(1, 0, 1, false);
        }
        x.pass(1);
        Shops.sellNets(x, 0, 1000000);
        x.pass(30);
        Tests.due("sales of the product", x.payments(6) * 7, 14);
        Tests.due("the second of the last", Shops.lastParts(x), "1000 0 300 700");
    }

    private static void latePaymentsCount() {
        Tests.due("after 999999", partsBehindThirteenth(999899), "1000 0 150 850");
        Tests.due("after 1000000", partsBehindThirteenth(999900), "1000 0 300 700");
    }

    /** A sale of 1000 behind a 13th payment of 100, on the same day, and behind nets of that sum in its year. */
    private static String partsBehindThirteenth(int nets) {
        ShopPaymaster x = Shops.of(0, 1, 100);
        x.subscribe(1, 0, 10, false);
        Shops.passTo(x, 369);
        Shops.sellNets(x, 0, nets);
        x.pass(1);
        Tests.due("payments", x.payments(0), 13);
        return Shops.sold(x, 0, 0, 1000);
    }

    private static void refundMonths() {
        Tests.test("promise 7: 'in the month of its day', today", () -> refundable(0, 0));
        Tests.test("promise 7: 'in the month of its day', its last day", () -> refundable(0, 29));
        Tests.test("promise 7: 'one of the 3 months behind it', the first day", () -> refundable(29, 30));
        Tests.test("promise 7: 'one of the 3 months behind it', the last day", () -> refundable(0, 119));
        Tests.test("promise 7: 'more than 3 months ago', 120 days", () -> tooOld(0, 120));
        Tests.test("promise 7: 'more than 3 months ago', 91 days", () -> tooOld(29, 120));
        Tests.test("promise 7: 'one of the 3 months behind it', 119 days of day 30", () -> refundable(30, 149));
        Tests.test("promise 7: 'more than 3 months ago', of day 30", () -> tooOld(30, 150));
        Tests.test("promise 7: 'one of the 3 months behind it', across a year", () -> refundable(359, 449));
        Tests.test("promise 7: 'more than 3 months ago', across a year", () -> tooOld(359, 450));
        Tests.test("promise 7: 'one of the 3 months behind it', on the last day", () -> refundable(3510, 3600));
        Tests.test("promise 7: 'more than 3 months ago', on the last day", () -> tooOld(3509, 3600));
        Tests.test("promise 7: 'can be refunded once', each sale by itself", SalesEdgesTest::refundedByItself);
    }

    private static ShopPaymaster soldOn(int soldDay, int day) {
        ShopPaymaster x = Shops.of(0, 1000);
        Shops.passTo(x, soldDay);
        x.buy(0, 0);
        Shops.passTo(x, day);
        return x;
    }

    private static void refundable(int soldDay, int day) {
        ShopPaymaster x = soldOn(soldDay, day);
        Tests.due("refund", x.refund(0), 1000);
        Tests.due("takings", x.takings(), 0);
        Tests.badState(x, "a second one", () -> x.refund(0));
    }

    private static void tooOld(int soldDay, int day) {
        ShopPaymaster x = soldOn(soldDay, day);
        Tests.badState(x, "refund", () -> x.refund(0));
        Tests.due("takings", x.takings(), 1000);
    }

    private static void refundedByItself() {
        ShopPaymaster x = Shops.of(0, 1000);
        for (int sale = 0; sale < 3; sale++) {
            x.buy(0, 0);
        }
        x.refund(1);
        Tests.due("the one before", x.refund(0), 1000);
        Tests.due("the one behind", x.refund(2), 1000);
        Tests.badState(x, "again", () -> x.refund(1));
    }

    private static void refundSums() {
        Tests.test("promise 7: 'given back with the tax, the share of the shop and the part'",
                SalesEdgesTest::givenBack);
        Tests.test("promise 7: 'taken back in the month of the refund', its last day", () -> takenBack(29, 0));
        Tests.test("promise 7: 'taken back in the month of the refund', the next one's first day",
                () -> takenBack(30, 1));
        Tests.test("promise 7: 'whichever month the sale is of', the last possible one", () -> takenBack(119, 3));
        Tests.test("promise 7: a refund of 0 cents changes no sum", SalesEdgesTest::nothingGivenBack);
        Tests.test("promise 7: the share that is given back is the one of the sale", SalesEdgesTest::ownShareBack);
    }

    private static void givenBack() {
        ShopPaymaster x = Shops.of(0, 1);
        x.setTax(2, 30, true);
        Shops.sold(x, 0, 2, 129);
        Shops.sold(x, 0, 2, 100000);
        Tests.due("refund", x.refund(1), 100000);
        Tests.due("held", x.heldTax(2), 29);
        Tests.due("shop", x.shop(), 15);
        Tests.due("balance", x.balance(0), 85);
        Tests.due("takings", x.takings(), 129);
    }

    private static void takenBack(int day, int month) {
        ShopPaymaster x = soldOn(0, day);
        x.refund(0);
        Tests.due("balance", x.balance(0), month == 0 ? 0 : -850);
        Shops.passTo(x, 120);
        Tests.due("payout of its own month", x.payout(0, 0), month == 0 ? 0 : 850);
        Tests.due("carried", x.carried(0), month == 0 ? 0 : -850);
    }

    private static void nothingGivenBack() {
        ShopPaymaster x = Shops.of(0, 1000, 0);
        x.buy(0, 0);
        x.buy(1, 0);
        Tests.due("refund", x.refund(1), 0);
        Tests.due("takings", x.takings(), 1000);
        Tests.due("shop", x.shop(), 150);
        Tests.due("balance", x.balance(0), 850);
    }

    private static void ownShareBack() {
        ShopPaymaster x = Shops.of(0, 1);
        Shops.sold(x, 0, 0, 1000);
        Shops.sellNets(x, 0, 999000);
        Shops.sold(x, 0, 0, 1000);
        int shop = x.shop();
        x.refund(0);
        Tests.due("the low share", x.shop(), shop - 150);
        x.refund(x.sales() - 1);
        Tests.due("the full share", x.shop(), shop - 450);
    }

    private static void answers() {
        Tests.test("promise 8: 'the number of sales', none and the first", SalesEdgesTest::firstSale);
        Tests.test("promise 9: 'refunded or not'", SalesEdgesTest::partsAfterRefund);
        Tests.test("promise 10: 'held back or passed on'", SalesEdgesTest::taxEitherWay);
        Tests.test("promises 9 to 12: of a sale that is years old", SalesEdgesTest::oldSale);
    }

    private static void firstSale() {
        ShopPaymaster x = Shops.of(0, 1000);
        Tests.due("none", x.sales(), 0);
        x.buy(0, 0);
        Tests.due("one", x.sales(), 1);
        x.refund(0);
        Tests.due("one, refunded", x.sales(), 1);
    }

    private static void partsAfterRefund() {
        ShopPaymaster x = Shops.of(0, 1);
        x.setTax(1, 30, false);
        String sold = Shops.sold(x, 0, 1, 130);
        x.refund(0);
        Tests.due("parts", sold, "130 30 15 115");
        Tests.due("parts after a refund", Shops.parts(x, 0), sold);
    }

    private static void taxEitherWay() {
        ShopPaymaster x = Shops.of(0, 130);
        x.setTax(0, 30, true);
        x.setTax(1, 30, false);
        Tests.due("held", x.tax(x.buy(0, 0)), 30);
        Tests.due("passed on", x.tax(x.buy(0, 1)), 30);
    }

    private static void oldSale() {
        ShopPaymaster x = Shops.of(0, 1);
        x.setTax(1, 30, true);
        String sold = Shops.sold(x, 0, 1, 130);
        Shops.passTo(x, 3600);
        Tests.due("parts", Shops.parts(x, 0), sold);
    }
}
