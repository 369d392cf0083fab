/** Promises 13 to 18, and 'Subscriptions' of the terms: the boundary cases, a test for each sentence. */
public final class SubscriptionEdgesTest {
    public static void main(String[] args) {
        begin();
        half();
        payments();
        tries();
        moves();
        ends();
        answers();
        Tests.end();
    }

    /** Products of 1001, 2003 and 5 cents, all of one maker. */
    private static ShopPaymaster shop() {
        return Shops.of(0, 1001, 2003, 5);
    }

    private static void begin() {
        Tests.test("promise 13: 'at most 40': the 39th, the 40th, and no 41st", SubscriptionEdgesTest::atMost40);
        Tests.test("promise 13: 'at most 40', ended ones too", SubscriptionEdgesTest::endedCount);
        Tests.test("promise 13: 'days: 1 to 60', the first", () -> firstPayment(0, 1));
        Tests.test("promise 13: 'days: 1 to 60', the last", () -> firstPayment(0, 60));
        Tests.test("promise 13: 'behind today', not behind day 0", () -> firstPayment(47, 60));
        Tests.test("promise 13: 'land: 0 to 4', the first", () -> payingIn(0));
        Tests.test("promise 13: 'land: 0 to 4', the last", () -> payingIn(4));
        Tests.test("promise 13: beginning pays nothing today", SubscriptionEdgesTest::nothingToday);
        Tests.test("promise 13: the last product", SubscriptionEdgesTest::lastProduct);
    }

    private static void atMost40() {
        ShopPaymaster x = shop();
        for (int subscription = 0; subscription < 40; subscription++) {
            Tests.due("subscription", x.subscribe(subscription % 3, 0, 60, false), subscription);
        }
        Tests.due("next of the 40th", x.next(39), 60);
        Tests.badState(x, "the 41st", () -> x.subscribe(0, 0, 60, false));
        Tests.noSuch(x, "next of a 41st", () -> x.next(40));
        Tests.due("payments", x.pass(60), 40);
    }

    private static void endedCount() {
        ShopPaymaster x = shop();
        for (int subscription = 0; subscription < 39; subscription++) {
            x.subscribe(0, 0, 1, false);
        }
        x.cancel(0);
        x.setFailing(1, true);
        x.pass(6);
        Tests.due("the 40th", x.subscribe(0, 0, 1, false), 39);
        Tests.badState(x, "the 41st", () -> x.subscribe(0, 0, 1, false));
    }

    private static void firstPayment(int day, int days) {
        ShopPaymaster x = shop();
        Shops.passTo(x, day);
        x.subscribe(0, 0, days, false);
        Tests.due("next", x.next(0), day + days);
        Shops.passTo(x, day + days - 1);
        Tests.due("the day before", x.payments(0), 0);
        Tests.due("on the day", x.pass(1), 1);
        Tests.due("sales", x.sales(), 1);
    }

    private static void payingIn(int land) {
        ShopPaymaster x = shop();
        x.setTax(land, 30, true);
        x.setPrice(0, land, 130);
        x.subscribe(0, land, 1, false);
        x.pass(1);
        Tests.due("parts", Shops.parts(x, 0), "130 30 15 85");
        Tests.due("held", x.heldTax(land), 30);
    }

    private static void nothingToday() {
        ShopPaymaster x = shop();
        x.subscribe(0, 0, 1, true);
        Tests.due("payments", x.payments(0), 0);
        Tests.due("sales", x.sales(), 0);
        Tests.due("takings", x.takings(), 0);
        Tests.due("balance", x.balance(0), 0);
    }

    private static void lastProduct() {
        ShopPaymaster x = shop();
        x.subscribe(2, 0, 1, false);
        x.pass(1);
        Tests.due("paid", x.paid(0), 5);
    }

    private static void half() {
        Tests.test("promise 13: 'half the price, rounded down', of 0", () -> halfOf(0, 0));
        Tests.test("promise 13: 'half the price, rounded down', of 1", () -> halfOf(1, 0));
        Tests.test("promise 13: 'half the price, rounded down', of 2", () -> halfOf(2, 1));
        Tests.test("promise 13: 'half the price, rounded down', of 3", () -> halfOf(3, 1));
        Tests.test("promise 13: 'half the price, rounded down', of 99999", () -> halfOf(99999, 49999));
        Tests.test("promise 13: 'half the price, rounded down', of 100000", () -> halfOf(100000, 50000));
        Tests.test("promise 13: the first payment alone is half", SubscriptionEdgesTest::firstAlone);
        Tests.test("promise 13: 'if a first offer was told', and not otherwise", SubscriptionEdgesTest::notHalf);
        Tests.test("promise 13: half the price of the day on which it is paid", SubscriptionEdgesTest::halfOnItsDay);
        Tests.test("promise 13: a first payment that is tried again is half", SubscriptionEdgesTest::halfTriedAgain);
        Tests.test("promise 13: the tax is that of the half", SubscriptionEdgesTest::taxOfHalf);
    }

    private static void halfOf(int price, int half) {
        ShopPaymaster x = Shops.of(0, price);
        x.subscribe(0, 0, 1, true);
        Tests.due("payments", x.pass(1), 1);
        Tests.due("paid", x.paid(0), half);
        Tests.due("takings", x.takings(), half);
    }

    private static void firstAlone() {
        ShopPaymaster x = shop();
        x.subscribe(0, 0, 1, true);
        x.pass(61);
        Tests.due("first", x.paid(0), 500);
        Tests.due("second", x.paid(1), 1001);
        Tests.due("third", x.paid(2), 1001);
    }

    private static void notHalf() {
        ShopPaymaster x = shop();
        x.subscribe(0, 0, 1, false);
        x.subscribe(1, 0, 1, true);
        x.pass(1);
        Tests.due("not told", x.paid(0), 1001);
        Tests.due("told", x.paid(1), 1001);
        Tests.due("takings", x.takings(), 2002);
    }

    private static void halfOnItsDay() {
        ShopPaymaster x = shop();
        x.subscribe(0, 0, 2, true);
        x.pass(1);
        x.setPrice(0, 0, 301);
        x.pass(1);
        x.setPrice(0, 0, 1);
        Tests.due("paid", x.paid(0), 150);
    }

    private static void halfTriedAgain() {
        ShopPaymaster x = shop();
        x.subscribe(0, 0, 1, true);
        x.setFailing(0, true);
        x.pass(5);
        x.setFailing(0, false);
        x.pass(31);
        Tests.due("at the sixth try", x.paid(0), 500);
        Tests.due("the second payment", x.paid(1), 1001);
    }

    private static void taxOfHalf() {
        ShopPaymaster x = Shops.of(0, 261);
        x.setTax(0, 30, true);
        x.subscribe(0, 0, 1, true);
        x.pass(1);
        Tests.due("parts", Shops.parts(x, 0), "130 30 15 85");
    }

    private static void payments() {
        Tests.test("promise 17: '30 days behind the day of the payment before', not 29", () -> secondPayment(29, 1));
        Tests.test("promise 17: '30 days behind the day of the payment before', just 30", () -> secondPayment(30, 2));
        Tests.test("promise 17: the third one is not ahead of 60 days", () -> secondPayment(59, 2));
        Tests.test("promise 17: the third one after 60 days", () -> secondPayment(60, 3));
        Tests.test("promise 17: 'at the price of the product in the land on its day'",
                SubscriptionEdgesTest::pricesOfDays);
        Tests.test("promise 17: a payment of 0 cents is a payment", SubscriptionEdgesTest::paymentOfNothing);
        Tests.test("promise 17: the tax of the day on which it is paid", SubscriptionEdgesTest::taxOfDays);
    }

    private static void secondPayment(int daysBehind, int payments) {
        ShopPaymaster x = shop();
        x.subscribe(0, 0, 7, false);
        x.pass(7);
        x.pass(daysBehind);
        Tests.due("payments", x.payments(0), payments);
        Tests.due("sales", x.sales(), payments);
    }

    private static void pricesOfDays() {
        ShopPaymaster x = shop();
        x.subscribe(0, 3, 1, false);
        x.pass(1);
        x.setPrice(0, 3, 70);
        x.setPrice(0, 2, 80);
        x.pass(29);
        x.setPrice(0, 3, 90);
        x.pass(1);
        x.setPrice(0, 3, 100);
        Tests.due("first", x.paid(0), 1001);
        Tests.due("second", x.paid(1), 90);
    }

    private static void paymentOfNothing() {
        ShopPaymaster x = Shops.of(0, 0);
        x.subscribe(0, 0, 1, true);
        Tests.due("payments of the day", x.pass(1), 1);
        Tests.due("payments", x.payments(0), 1);
        Tests.due("sales", x.sales(), 1);
        Tests.due("next", x.next(0), 31);
    }

    private static void taxOfDays() {
        ShopPaymaster x = Shops.of(0, 130);
        x.subscribe(0, 0, 1, false);
        x.pass(1);
        x.setTax(0, 30, false);
        x.pass(30);
        x.setTax(0, 0, true);
        Tests.due("first", Shops.parts(x, 0), "130 0 19 111");
        Tests.due("second", Shops.parts(x, 1), "130 30 15 115");
    }

    private static void tries() {
        for (int tries = 2; tries <= 6; tries++) {
            int each = tries;
            Tests.test("promise 15: 'tried again on each of the next 5 days', made at try " + tries,
                    () -> madeAtTry(each));
        }
        Tests.test("promise 15: 'when it has failed on all 6 days', 5 are not enough", SubscriptionEdgesTest::failed5);
        Tests.test("promise 15: 'when it has failed on all 6 days, the subscription ends'",
                SubscriptionEdgesTest::failed6);
        Tests.test("promise 15: 'failed on all 6 days', a later payment", SubscriptionEdgesTest::laterFailed6);
        Tests.test("promise 15: failures of two payments are not summed", SubscriptionEdgesTest::notSummed);
        Tests.test("promise 15: 'fails on its day', told the day before", SubscriptionEdgesTest::toldDayBefore);
        Tests.test("promise 15: told on the day, the payment is made already", SubscriptionEdgesTest::toldOnDay);
        Tests.test("promise 15: told and taken back between two payments", SubscriptionEdgesTest::takenBack);
        Tests.test("promise 15: 'from now on', until it ends", SubscriptionEdgesTest::failsFromNowOn);
        Tests.test("promise 15: telling it twice is telling it once", SubscriptionEdgesTest::toldTwice);
        Tests.test("promise 15: telling it to and fro on one day forgets no failure",
                SubscriptionEdgesTest::toldToAndFro);
        Tests.test("promise 15: of one subscription alone", SubscriptionEdgesTest::failsAlone);
        Tests.test("promise 15: the price of the day of the try that is made", SubscriptionEdgesTest::priceOfTry);
        Tests.test("promise 15: a failed try is no sale", SubscriptionEdgesTest::noSaleOfTry);
    }

    private static ShopPaymaster failingFrom(int day) {
        ShopPaymaster x = shop();
        x.subscribe(0, 0, day, false);
        x.setFailing(0, true);
        return x;
    }

    private static void madeAtTry(int tries) {
        ShopPaymaster x = failingFrom(10);
        for (int failed = 1; failed < tries; failed++) {
            Shops.passTo(x, 9 + failed);
            Tests.due("next after try " + failed, x.next(0), 10 + failed);
        }
        x.setFailing(0, false);
        Tests.due("not at once", x.payments(0), 0);
        Tests.due("made", x.pass(1), 1);
        Tests.due("day", x.day(), 9 + tries);
        Tests.due("next, 30 days behind the day on which it was made", x.next(0), 39 + tries);
        Tests.due("not earlier", x.pass(29), 0);
        Tests.due("the second payment", x.pass(1), 1);
    }

    private static void failed5() {
        ShopPaymaster x = failingFrom(10);
        Shops.passTo(x, 14);
        Tests.due("next", x.next(0), 15);
        x.setFailing(0, false);
        Tests.due("made", x.pass(1), 1);
    }

    private static void failed6() {
        ShopPaymaster x = failingFrom(10);
        Shops.passTo(x, 15);
        Tests.due("next", x.next(0), ShopPaymaster.NONE);
        Tests.due("payments", x.payments(0), 0);
        Tests.badState(x, "setFailing", () -> x.setFailing(0, false));
        Tests.due("no seventh try", x.pass(60), 0);
        Tests.due("sales", x.sales(), 0);
    }

    private static void laterFailed6() {
        ShopPaymaster x = shop();
        x.subscribe(0, 0, 10, false);
        Shops.passTo(x, 40);
        x.setFailing(0, true);
        Shops.passTo(x, 74);
        Tests.due("next after 5", x.next(0), 75);
        x.pass(1);
        Tests.due("next after 6", x.next(0), ShopPaymaster.NONE);
        Tests.due("payments", x.payments(0), 2);
    }

    private static void notSummed() {
        ShopPaymaster x = failingFrom(10);
        Shops.passTo(x, 14);
        x.setFailing(0, false);
        x.pass(1);
        x.setFailing(0, true);
        Shops.passTo(x, 49);
        Tests.due("next after 5 of the second", x.next(0), 50);
        x.setFailing(0, false);
        Tests.due("made", x.pass(1), 1);
    }

    private static void toldDayBefore() {
        ShopPaymaster x = shop();
        x.subscribe(0, 0, 10, false);
        x.pass(9);
        x.setFailing(0, true);
        Tests.due("made", x.pass(1), 0);
        Tests.due("next", x.next(0), 11);
    }

    private static void toldOnDay() {
        ShopPaymaster x = shop();
        x.subscribe(0, 0, 10, false);
        x.pass(10);
        x.setFailing(0, true);
        Tests.due("payments", x.payments(0), 1);
        Tests.due("next", x.next(0), 40);
        Tests.due("made until the next", x.pass(30), 0);
        Tests.due("next", x.next(0), 41);
    }

    private static void takenBack() {
        ShopPaymaster x = failingFrom(10);
        x.pass(9);
        x.setFailing(0, false);
        Tests.due("made", x.pass(1), 1);
        x.setFailing(0, true);
        x.pass(29);
        x.setFailing(0, false);
        Tests.due("made", x.pass(1), 1);
    }

    private static void failsFromNowOn() {
        ShopPaymaster x = failingFrom(10);
        x.subscribe(0, 0, 60, false);
        x.pass(400);
        Tests.due("payments", x.payments(0), 0);
        Tests.due("next", x.next(0), ShopPaymaster.NONE);
        Tests.due("payments of the other", x.payments(1), 12);
    }

    private static void toldTwice() {
        ShopPaymaster x = failingFrom(10);
        x.setFailing(0, true);
        x.pass(10);
        x.setFailing(0, true);
        Tests.due("next", x.next(0), 11);
        x.setFailing(0, false);
        x.setFailing(0, false);
        Tests.due("made", x.pass(1), 1);
    }

    private static void toldToAndFro() {
        ShopPaymaster x = failingFrom(10);
        x.pass(12);
        x.setFailing(0, false);
        x.setFailing(0, true);
        Tests.due("next", x.next(0), 13);
        x.pass(2);
        Tests.due("next after 5", x.next(0), 15);
        x.pass(1);
        Tests.due("next after 6", x.next(0), ShopPaymaster.NONE);
    }

    private static void failsAlone() {
        ShopPaymaster x = failingFrom(10);
        x.subscribe(0, 0, 10, false);
        Tests.due("made", x.pass(10), 1);
        Tests.due("of the first", x.payments(0), 0);
        Tests.due("of the second", x.payments(1), 1);
    }

    private static void priceOfTry() {
        ShopPaymaster x = failingFrom(10);
        x.pass(10);
        x.setPrice(0, 0, 77);
        x.setFailing(0, false);
        x.pass(1);
        Tests.due("paid", x.paid(0), 77);
    }

    private static void noSaleOfTry() {
        ShopPaymaster x = failingFrom(10);
        Tests.due("made", x.pass(12), 0);
        Tests.due("sales", x.sales(), 0);
        Tests.due("takings", x.takings(), 0);
        Tests.due("balance", x.balance(0), 0);
        Tests.due("payments", x.payments(0), 0);
    }

    private static void moves() {
        Tests.test("promise 14: 'later payments are for that one', the day before", () -> movedOn(9, 2003));
        Tests.test("promise 14: 'later payments are for that one', the payment of today is made",
                () -> movedOn(10, 1001));
        Tests.test("promise 14: 'Returns the product before', to and fro", SubscriptionEdgesTest::movedToAndFro);
        Tests.test("promise 14: 'a first payment at half the price stays so'", SubscriptionEdgesTest::movedHalf);
        Tests.test("promise 14: a second payment is not half after a move", SubscriptionEdgesTest::movedBehindHalf);
        Tests.test("promise 14: a move changes neither the day nor the payments", SubscriptionEdgesTest::movedDays);
        Tests.test("promise 14: a move keeps the failures", SubscriptionEdgesTest::movedFailures);
        Tests.test("promise 14: a move keeps the land", SubscriptionEdgesTest::movedLand);
        Tests.test("promise 14: two subscriptions move by themselves", SubscriptionEdgesTest::movedAlone);
    }

    /** What the payment of day 10 is, if the subscription is moved on a day. */
    private static void movedOn(int day, int paid) {
        ShopPaymaster x = shop();
        x.subscribe(0, 0, 10, false);
        x.pass(day);
        x.move(0, 1);
        Shops.passTo(x, 40);
        Tests.due("of day 10", x.paid(0), paid);
        Tests.due("of day 40", x.paid(1), 2003);
    }

    private static void movedToAndFro() {
        ShopPaymaster x = shop();
        x.subscribe(1, 0, 10, false);
        Tests.due("before", x.move(0, 2), 1);
        Tests.due("before", x.move(0, 0), 2);
        Tests.due("before", x.move(0, 1), 0);
        Tests.due("before", x.move(0, 0), 1);
        x.pass(10);
        Tests.due("paid", x.paid(0), 1001);
    }

    private static void movedHalf() {
        ShopPaymaster x = shop();
        x.subscribe(0, 0, 10, true);
        x.move(0, 1);
        x.pass(40);
        Tests.due("first", x.paid(0), 1001);
        Tests.due("second", x.paid(1), 2003);
    }

    private static void movedBehindHalf() {
        ShopPaymaster x = shop();
        x.subscribe(0, 0, 10, true);
        x.pass(10);
        x.move(0, 1);
        x.pass(30);
        Tests.due("first", x.paid(0), 500);
        Tests.due("second", x.paid(1), 2003);
    }

    private static void movedDays() {
        ShopPaymaster x = shop();
        x.subscribe(0, 0, 10, false);
        x.pass(12);
        x.move(0, 1);
        Tests.due("next", x.next(0), 40);
        Tests.due("payments", x.payments(0), 1);
    }

    private static void movedFailures() {
        ShopPaymaster x = failingFrom(10);
        x.pass(14);
        x.move(0, 1);
        Tests.due("next", x.next(0), 15);
        x.pass(1);
        Tests.due("ended at the sixth", x.next(0), ShopPaymaster.NONE);
    }

    private static void movedLand() {
        ShopPaymaster x = shop();
        x.setPrice(1, 4, 40);
        x.subscribe(0, 4, 1, false);
        x.move(0, 1);
        x.pass(1);
        Tests.due("paid", x.paid(0), 40);
    }

    private static void movedAlone() {
        ShopPaymaster x = shop();
        x.subscribe(0, 0, 1, false);
        x.subscribe(0, 0, 1, false);
        x.move(1, 1);
        x.pass(1);
        Tests.due("the one", x.paid(0), 1001);
        Tests.due("the other", x.paid(1), 2003);
    }

    private static void ends() {
        Tests.test("promise 16: 'it ends at once', the day before a payment", () -> cancelledOn(9, 0));
        Tests.test("promise 16: 'it ends at once', the payment of today is made", () -> cancelledOn(10, 1));
        Tests.test("promise 16: 'it ends at once', before the second payment", () -> cancelledOn(39, 1));
        Tests.test("promise 16: 'it ends at once', on the day of its beginning", () -> cancelledOn(0, 0));
        Tests.test("promise 16: 'how many payments were made', while it is tried again",
                SubscriptionEdgesTest::cancelledInTries);
        Tests.test("promise 16: the others go on", SubscriptionEdgesTest::othersGoOn);
        Tests.test("promise 16: the payments that were made stay", SubscriptionEdgesTest::paidStays);
    }

    private static void cancelledOn(int day, int payments) {
        ShopPaymaster x = shop();
        x.subscribe(0, 0, 10, false);
        Shops.passTo(x, day);
        Tests.due("cancel", x.cancel(0), payments);
        Tests.due("next", x.next(0), ShopPaymaster.NONE);
        Tests.due("made later", x.pass(100), 0);
        Tests.due("payments", x.payments(0), payments);
        Tests.due("sales", x.sales(), payments);
    }

    private static void cancelledInTries() {
        ShopPaymaster x = shop();
        x.subscribe(0, 0, 10, false);
        x.pass(39);
        x.setFailing(0, true);
        x.pass(2);
        Tests.due("cancel", x.cancel(0), 1);
        Tests.due("next", x.next(0), ShopPaymaster.NONE);
        Tests.due("no more tries", x.pass(60), 0);
        Tests.due("payments", x.payments(0), 1);
    }

    private static void othersGoOn() {
        ShopPaymaster x = shop();
        for (int subscription = 0; subscription < 3; subscription++) {
            x.subscribe(subscription, 0, 10, false);
        }
        x.cancel(1);
        Tests.due("made", x.pass(10), 2);
        Tests.due("the one before", x.paid(0), 1001);
        Tests.due("the one behind", x.paid(1), 5);
        Tests.due("its number stays", x.next(2), 40);
    }

    private static void paidStays() {
        ShopPaymaster x = shop();
        x.subscribe(0, 0, 10, false);
        x.pass(10);
        x.cancel(0);
        Tests.due("paid", x.paid(0), 1001);
        Tests.due("takings", x.takings(), 1001);
        Tests.due("refund", x.refund(0), 1001);
    }

    private static void answers() {
        Tests.test("promise 17: 'how many payments were made', none, the first, after the end",
                SubscriptionEdgesTest::paymentsMade);
        Tests.test("promise 18: 'NONE if it has ended', and no day before", SubscriptionEdgesTest::nextAndNone);
        Tests.test("promise 18: 'made or tried', tomorrow while it is tried", SubscriptionEdgesTest::nextTry);
        Tests.test("promise 18: a day above the last one", SubscriptionEdgesTest::nextAboveLast);
        Tests.test("promise 18: failing that is told changes no day", SubscriptionEdgesTest::nextIfTold);
    }

    private static void paymentsMade() {
        ShopPaymaster x = shop();
        x.subscribe(0, 0, 10, false);
        x.pass(9);
        Tests.due("none", x.payments(0), 0);
        x.pass(1);
        Tests.due("one", x.payments(0), 1);
        x.refund(0);
        Tests.due("one, refunded", x.payments(0), 1);
        x.cancel(0);
        Tests.due("one, ended", x.payments(0), 1);
    }

    private static void nextAndNone() {
        ShopPaymaster x = shop();
        x.subscribe(0, 0, 10, false);
        Tests.due("first", x.next(0), 10);
        x.pass(10);
        Tests.due("second", x.next(0), 40);
        x.cancel(0);
        Tests.due("ended", x.next(0), -1);
        Shops.passTo(x, 3600);
        Tests.due("ended for long", x.next(0), -1);
    }

    private static void nextTry() {
        ShopPaymaster x = failingFrom(10);
        x.pass(9);
        Tests.due("on its day", x.next(0), 10);
        for (int day = 10; day < 15; day++) {
            x.pass(1);
            Tests.due("on day " + day, x.next(0), day + 1);
        }
        x.pass(1);
        Tests.due("on day 15", x.next(0), ShopPaymaster.NONE);
    }

    private static void nextAboveLast() {
        ShopPaymaster x = shop();
        Shops.passTo(x, 3600);
        x.subscribe(0, 0, 60, false);
        Tests.due("next", x.next(0), 3660);
        Tests.due("payments", x.payments(0), 0);
    }

    private static void nextIfTold() {
        ShopPaymaster x = shop();
        x.subscribe(0, 0, 10, false);
        x.setFailing(0, true);
        Tests.due("told", x.next(0), 10);
        x.pass(11);
        Tests.due("failed twice", x.next(0), 12);
        x.setFailing(0, false);
        Tests.due("taken back", x.next(0), 12);
    }
}
