/**
 * What an object answers when it is asked for all that it holds, and is then used on for some months: what can be
 * told of two objects by calls, shows here. It takes less than 400 calls, as an object is promised to answer 512.
 */
final class Aftermath {
    private interface Call {
        int asked();
    }

    private static final int LANDS = 5;
    private static final int MAKERS = 6;
    private static final int PRODUCTS = 20;
    private static final int SUBSCRIPTIONS = 40;
    private static final int FIRST_SALES = 12;
    private static final int FIRST_SUBSCRIPTIONS = 5;

    private final ShopPaymaster x;
    private final StringBuilder text = new StringBuilder();

    private Aftermath(ShopPaymaster x) {
        this.x = x;
    }

    /** The answers, a line each. */
    static String of(ShopPaymaster x) {
        Aftermath after = new Aftermath(x);
        after.askSums();
        after.askSales();
        after.askMakers();
        after.askSubscriptions(SUBSCRIPTIONS);
        after.showTaxes();
        after.showPrices();
        after.showRefunds();
        after.fill();
        after.passSomeDays();
        after.showProducts();
        after.passSomeDays();
        return after.text.toString();
    }

    /** Tells whether the call was answered: behind the last thing of a kind there are no more. */
    private boolean tell(String call, Call asked) {
        text.append(call).append(' ');
        try {
            text.append(asked.asked()).append('\n');
            return true;
        } catch (RuntimeException e) {
            text.append(e.getClass().getSimpleName()).append('\n');
            return false;
        }
    }

    private boolean isNearTheEnd() {
        return x.day() > 3500;
    }

    private void askSums() {
        tell("day", x::day);
        tell("sales", x::sales);
        tell("shop", x::shop);
        tell("takings", x::takings);
        for (int land = 0; land < LANDS; land++) {
            int each = land;
            tell("heldTax " + land, () -> x.heldTax(each));
        }
    }

    private void askSales() {
        for (int sale = 0; sale < FIRST_SALES; sale++) {
            int each = sale;
            if (!tell("paid " + sale, () -> x.paid(each))) {
                return;
            }
            tell("tax " + sale, () -> x.tax(each));
            tell("shopShare " + sale, () -> x.shopShare(each));
            tell("makerPart " + sale, () -> x.makerPart(each));
        }
    }

    private void askMakers() {
        int closed = isNearTheEnd() ? 1 : x.day() / 30;
        for (int maker = 0; maker <= MAKERS; maker++) {
            int each = maker;
            if (!tell("carried " + maker, () -> x.carried(each))) {
                return;
            }
            tell("balance " + maker, () -> x.balance(each));
            for (int month = Math.max(0, closed - 2); month < closed; month++) {
                int then = month;
                tell("payout " + maker + " in " + month, () -> x.payout(each, then));
            }
        }
    }

    private void askSubscriptions(int most) {
        for (int subscription = 0; subscription < most; subscription++) {
            int each = subscription;
            if (!tell("payments " + subscription, () -> x.payments(each))) {
                return;
            }
            tell("next " + subscription, () -> x.next(each));
        }
    }

    private void showTaxes() {
        for (int land = 0; land < LANDS; land++) {
            int each = land;
            tell("buy in " + land, () -> x.buy(0, each));
            tell("heldTax " + land, () -> x.heldTax(each));
            tell("setTax " + land, () -> x.setTax(each, 5 + each, true));
        }
    }

    /** From here on each product has prices of its own, so that later payments tell which one they are for. */
    private void showPrices() {
        for (int product = 0; product < PRODUCTS; product++) {
            for (int land = 0; land < LANDS; land++) {
                int each = product;
                int place = land;
                if (!tell("setPrice " + product, () -> x.setPrice(each, place, 1000 * each + 10 * place + 1))) {
                    return;
                }
            }
        }
    }

    private void showProducts() {
        for (int subscription = 0; subscription < 4; subscription++) {
            int each = subscription;
            tell("move " + subscription + " to 0", () -> x.move(each, 0));
            tell("move " + subscription + " to 1", () -> x.move(each, 1));
        }
    }

    private void passSomeDays() {
        tell("pass", () -> x.pass(isNearTheEnd() ? 1 : 35));
        askSums();
        askMakers();
        askSubscriptions(FIRST_SUBSCRIPTIONS);
    }

    private void showRefunds() {
        for (int sale = 0; sale < FIRST_SALES; sale++) {
            int each = sale;
            tell("refund " + sale, () -> x.refund(each));
        }
    }

    /** Adds what there is room for: the answers tell how much that is. */
    private void fill() {
        for (int i = 0; i <= MAKERS && tell("addMaker", () -> x.addMaker(70)); i++) {
            continue;
        }
        for (int i = 0; i <= PRODUCTS && tell("addProduct", () -> x.addProduct(0, 80)); i++) {
            continue;
        }
        for (int i = 0; i <= SUBSCRIPTIONS && tell("subscribe", () -> x.subscribe(0, 0, 9, true)); i++) {
            continue;
        }
    }
}
