/** What an object answers, as a text: two states that differ in one of these answers differ in it. */
final class State {
    private State() {
    }

    /** The sums, all sales and all makers: for objects that hold little. */
    static String of(ShopPaymaster x) {
        StringBuilder text = sums(x);
        for (int sale = 0; sale < x.sales(); sale++) {
            addSale(x, sale, text);
        }
        for (int maker = 0; maker < 6; maker++) {
            addMaker(x, maker, text);
        }
        return text.toString();
    }

    /** Some 20 answers alone, as an object is promised to answer 512 calls and no more. */
    static String brief(ShopPaymaster x) {
        StringBuilder text = sums(x);
        text.append(" sales ").append(x.sales());
        if (x.sales() > 0) {
            addSale(x, x.sales() - 1, text);
        }
        addMaker(x, 0, text);
        try {
            int payments = x.payments(0);
            text.append(" subscription ").append(payments).append(' ').append(x.next(0));
        } catch (IndexOutOfBoundsException e) {
            text.append(" no subscription");
        }
        return text.toString();
    }

    private static StringBuilder sums(ShopPaymaster x) {
        StringBuilder text = new StringBuilder("day ");
        text.append(x.day()).append(" shop ").append(x.shop()).append(" takings ").append(x.takings());
        for (int land = 0; land < 5; land++) {
            text.append(" held ").append(x.heldTax(land));
        }
        return text;
    }

    private static void addSale(ShopPaymaster x, int sale, StringBuilder text) {
        text.append(" sale ").append(x.paid(sale)).append(' ').append(x.tax(sale)).append(' ')
                .append(x.shopShare(sale)).append(' ').append(x.makerPart(sale));
    }

    private static void addMaker(ShopPaymaster x, int maker, StringBuilder text) {
        try {
            int carried = x.carried(maker);
            text.append(" maker ").append(carried).append(' ').append(x.balance(maker));
        } catch (IndexOutOfBoundsException e) {
            return;
        }
        int closed = x.day() / 30;
        if (closed > 0) {
            text.append(" payout ").append(x.payout(maker, closed - 1));
        }
    }
}
