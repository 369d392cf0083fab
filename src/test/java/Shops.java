/** Small shops for the tests, and what the tests often do with one. */
final class Shops {
    private static final int HIGHEST_PRICE = 100000;
    private static final int LONGEST_PASS = 400;

    private Shops() {
    }

    /** One maker, paid out from the threshold on, and a product for each price: 0, 1 and so on. */
    static ShopPaymaster of(int threshold, int... prices) {
        ShopPaymaster x = new ShopPaymaster();
        x.addMaker(threshold);
        for (int price : prices) {
            x.addProduct(0, price);
        }
        return x;
    }

    static void passTo(ShopPaymaster x, int day) {
        for (int left = day - x.day(); left > 0; left -= LONGEST_PASS) {
            x.pass(Math.min(left, LONGEST_PASS));
        }
    }

    /** Sells the product in land 0, where there must be no tax, until the nets sold are that sum more. */
    static void sellNets(ShopPaymaster x, int product, int sum) {
        for (int left = sum; left > 0; left -= HIGHEST_PRICE) {
            x.setPrice(product, 0, Math.min(left, HIGHEST_PRICE));
            x.buy(product, 0);
        }
    }

    /** Sells a product in a land at a price: paid, tax, share of the shop and part of the maker. */
    static String sold(ShopPaymaster x, int product, int land, int price) {
        x.setPrice(product, land, price);
        return parts(x, x.buy(product, land));
    }

    static String parts(ShopPaymaster x, int sale) {
        return x.paid(sale) + " " + x.tax(sale) + " " + x.shopShare(sale) + " " + x.makerPart(sale);
    }

    static String lastParts(ShopPaymaster x) {
        return parts(x, x.sales() - 1);
    }

    static String payoutAndCarried(ShopPaymaster x, int maker, int month) {
        return x.payout(maker, month) + " " + x.carried(maker);
    }
}
