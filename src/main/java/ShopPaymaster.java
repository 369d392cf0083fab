import java.util.ArrayList;

/**
 * An application shop paymaster: makers, their goods, sales, subscriptions, refunds and monthly payouts.
 * Amounts are whole cents; days are numbered from 0.
 */
public final class ShopPaymaster {
    public static final int NONE = -1;

    private static final int LANDS = 5;
    private static final int MAX_RATE = 30;
    private static final int MAX_MAKERS = 6;
    private static final int MAX_THRESHOLD = 1000000;
    private static final int MAX_PRODUCTS = 20;
    private static final int MAX_PRICE = 100000;
    private static final int MAX_SUBSCRIPTIONS = 40;
    private static final int MAX_FIRST_DAYS = 60;

    private static final int FULL_SHARE = 30;
    private static final int REDUCED_SHARE = 15;
    private static final int REDUCED_FROM_PAYMENT = 13;
    private static final int REDUCED_BELOW_NETS = 1000000;

    private static final int DAYS_BETWEEN_PAYMENTS = 30;
    private static final int MAX_TRIES = 6;
    private static final int REFUND_MONTHS = 3;

    private static final int MONTH_DAYS = 30;
    private static final int YEAR_DAYS = 360;
    private static final int LAST_DAY = 3600;
    private static final int MAX_MONTHS = LAST_DAY / MONTH_DAYS;
    private static final int MAX_PASSED_DAYS = 400;

    // 512 calls buy less than 512 times, and 40 subscriptions pay 120 times each
    // at most: no sale that is promised is ever refused by this bound.
    private static final int MAX_SALES = 6000;

    private final Land[] lands = new Land[LANDS];
    private final ArrayList<Maker> makers = new ArrayList<>();
    private final ArrayList<Product> products = new ArrayList<>();
    private final ArrayList<Sale> sales = new ArrayList<>();
    private final ArrayList<Subscription> subscriptions = new ArrayList<>();
    private int day = 0;
    private int shopSum = 0;
    private int takingsSum = 0;

    public ShopPaymaster() {
        for (int land = 0; land < lands.length; land++) {
            lands[land] = new Land(land);
        }
    }

    // ---- shop

    public int setTax(int land, int rate, boolean isHeld) throws IllegalArgumentException {
        Land taxed = landAt(land);
        requireRange(rate, 0, MAX_RATE);
        int before = taxed.rate;
        taxed.rate = rate;
        taxed.isHeld = isHeld;
        return before;
    }

    public int addMaker(int threshold) throws IllegalArgumentException, IllegalStateException {
        requireRange(threshold, 0, MAX_THRESHOLD);
        requireRoom(makers.size(), MAX_MAKERS);
        makers.add(new Maker(threshold));
        return makers.size() - 1;
    }

    public int addProduct(int maker, int price)
            throws IndexOutOfBoundsException, IllegalArgumentException, IllegalStateException {
        Maker owner = makerAt(maker);
        requireRange(price, 0, MAX_PRICE);
        requireRoom(products.size(), MAX_PRODUCTS);
        products.add(new Product(products.size(), owner, price));
        return products.size() - 1;
    }

    public int setPrice(int product, int land, int price) throws IndexOutOfBoundsException, IllegalArgumentException {
        Product priced = productAt(product);
        Land place = landAt(land);
        requireRange(price, 0, MAX_PRICE);
        return priced.changePrice(place, price);
    }

    // ---- sales

    public int buy(int product, int land) throws IndexOutOfBoundsException, IllegalArgumentException {
        Product bought = productAt(product);
        Land place = landAt(land);
        return sell(bought, place, bought.priceIn(place), false);
    }

    public int refund(int sale) throws IndexOutOfBoundsException, IllegalStateException {
        Sale refunded = saleAt(sale);
        if (refunded.isRefunded) {
            throw new IllegalStateException("the sale was refunded");
        }
        if (currentMonth() - refunded.month > REFUND_MONTHS) {
            throw new IllegalStateException("the month of the sale is too long ago");
        }
        refunded.isRefunded = true;
        book(refunded, -1);
        return refunded.paid;
    }

    public int sales() {
        return sales.size();
    }

    public int paid(int sale) throws IndexOutOfBoundsException {
        return saleAt(sale).paid;
    }

    public int tax(int sale) throws IndexOutOfBoundsException {
        return saleAt(sale).tax;
    }

    public int shopShare(int sale) throws IndexOutOfBoundsException {
        return saleAt(sale).share;
    }

    public int makerPart(int sale) throws IndexOutOfBoundsException {
        return saleAt(sale).part;
    }

    // ---- subscriptions

    public int subscribe(int product, int land, int days, boolean isHalf)
            throws IndexOutOfBoundsException, IllegalArgumentException, IllegalStateException {
        Product chosen = productAt(product);
        Land place = landAt(land);
        requireRange(days, 1, MAX_FIRST_DAYS);
        requireRoom(subscriptions.size(), MAX_SUBSCRIPTIONS);
        subscriptions.add(new Subscription(chosen, place, day + days, isHalf));
        return subscriptions.size() - 1;
    }

    public int move(int subscription, int product)
            throws IndexOutOfBoundsException, IllegalArgumentException, IllegalStateException {
        Subscription moved = subscriptionAt(subscription);
        Product target = productAt(product);
        Product before = moved.product;
        if (target == before) {
            throw new IllegalArgumentException("the product is the same");
        }
        if (target.maker != before.maker) {
            throw new IllegalArgumentException("the product is of another maker");
        }
        requireRunning(moved);
        moved.product = target;
        return before.number;
    }

    public void setFailing(int subscription, boolean isFailing)
            throws IndexOutOfBoundsException, IllegalStateException {
        Subscription told = subscriptionAt(subscription);
        requireRunning(told);
        told.isFailing = isFailing;
    }

    public int cancel(int subscription) throws IndexOutOfBoundsException, IllegalStateException {
        Subscription cancelled = subscriptionAt(subscription);
        requireRunning(cancelled);
        cancelled.end();
        return cancelled.paymentsMade;
    }

    public int payments(int subscription) throws IndexOutOfBoundsException {
        return subscriptionAt(subscription).paymentsMade;
    }

    public int next(int subscription) throws IndexOutOfBoundsException {
        return subscriptionAt(subscription).nextDay;
    }

    // ---- payouts and sums

    public int payout(int maker, int month) throws IndexOutOfBoundsException, IllegalArgumentException {
        Maker paidOut = makerAt(maker);
        // The months before the current one are just the closed ones.
        requireRange(month, 0, currentMonth() - 1);
        return paidOut.payoutOf(month);
    }

    public int carried(int maker) throws IndexOutOfBoundsException {
        return makerAt(maker).carriedSum;
    }

    public int balance(int maker) throws IndexOutOfBoundsException {
        return makerAt(maker).currentBalance();
    }

    public int heldTax(int land) throws IllegalArgumentException {
        return landAt(land).heldSum;
    }

    public int shop() {
        return shopSum;
    }

    public int takings() {
        return takingsSum;
    }

    // ---- time

    public int pass(int days) throws IllegalArgumentException, IllegalStateException {
        requireRange(days, 1, MAX_PASSED_DAYS);
        if (day + days > LAST_DAY) {
            throw new IllegalStateException("the day would be above the last one");
        }
        int made = 0;
        for (int i = 0; i < days; i++) {
            made += beginNextDay();
        }
        return made;
    }

    public int day() {
        return day;
    }

    // ---- what an argument must be

    private Land landAt(int land) {
        if (land < 0 || land >= lands.length) {
            throw new IllegalArgumentException("no such land");
        }
        return lands[land];
    }

    private Maker makerAt(int maker) {
        if (maker < 0 || maker >= makers.size()) {
            throw new IndexOutOfBoundsException("no such maker");
        }
        return makers.get(maker);
    }

    private Product productAt(int product) {
        if (product < 0 || product >= products.size()) {
            throw new IndexOutOfBoundsException("no such product");
        }
        return products.get(product);
    }

    private Sale saleAt(int sale) {
        if (sale < 0 || sale >= sales.size()) {
            throw new IndexOutOfBoundsException("no such sale");
        }
        return sales.get(sale);
    }

    private Subscription subscriptionAt(int subscription) {
        if (subscription < 0 || subscription >= subscriptions.size()) {
            throw new IndexOutOfBoundsException("no such subscription");
        }
        return subscriptions.get(subscription);
    }

    private static void requireRange(int value, int least, int most) {
        if (value < least || value > most) {
            throw new IllegalArgumentException("an argument is out of range");
        }
    }

    private static void requireRoom(int count, int most) {
        if (count >= most) {
            throw new IllegalStateException("there are as many as there may be");
        }
    }

    private static void requireRunning(Subscription subscription) {
        if (subscription.isEnded()) {
            throw new IllegalStateException("the subscription has ended");
        }
    }

    // ---- selling

    private int currentMonth() {
        return day / MONTH_DAYS;
    }

    private int sell(Product product, Land land, int price, boolean isLatePayment) {
        if (sales.size() >= MAX_SALES) {
            return NONE;
        }
        Maker maker = product.maker;
        boolean isReduced = isLatePayment || maker.netsOfYear < REDUCED_BELOW_NETS;
        Sale sale = new Sale(maker, land, currentMonth(), price, isReduced ? REDUCED_SHARE : FULL_SHARE);
        // A refund leaves the nets of the year as they are, so they are not booked with the rest.
        maker.netsOfYear += price - sale.tax;
        book(sale, 1);
        sales.add(sale);
        return sales.size() - 1;
    }

    /** Adds a sale to all sums, or takes it out again: sign is 1 or -1. */
    private void book(Sale sale, int sign) {
        takingsSum += sign * sale.paid;
        shopSum += sign * sale.share;
        sale.maker.partsOfMonth += sign * sale.part;
        if (sale.isTaxHeld) {
            sale.land.heldSum += sign * sale.tax;
        }
    }

    // ---- a day

    private int beginNextDay() {
        day++;
        if (day % MONTH_DAYS == 0) {
            closeMonth(currentMonth() - 1);
        }
        if (day % YEAR_DAYS == 0) {
            beginYear();
        }
        return collectPayments();
    }

    private void closeMonth(int month) {
        for (int i = 0; i < makers.size(); i++) {
            makers.get(i).settle(month);
        }
    }

    private void beginYear() {
        for (int i = 0; i < makers.size(); i++) {
            makers.get(i).netsOfYear = 0;
        }
    }

    private int collectPayments() {
        int made = 0;
        for (int i = 0; i < subscriptions.size(); i++) {
            Subscription subscription = subscriptions.get(i);
            if (subscription.nextDay == day && tryPayment(subscription)) {
                made++;
            }
        }
        return made;
    }

    /** Tells whether the payment was made. */
    private boolean tryPayment(Subscription subscription) {
        if (subscription.isFailing) {
            subscription.fail();
            return false;
        }
        int price = subscription.priceOfNext();
        subscription.countPayment(day);
        boolean isLatePayment = subscription.paymentsMade >= REDUCED_FROM_PAYMENT;
        sell(subscription.product, subscription.land, price, isLatePayment);
        return true;
    }

    private static final class Land {
        final int number;
        int rate = 0;
        boolean isHeld = true;
        int heldSum = 0;

        Land(int number) {
            this.number = number;
        }

        int taxIn(int price) {
            int percentOfPrice = 100 + rate;
            return percentOfPrice > 0 ? price * rate / percentOfPrice : 0;
        }
    }

    private static final class Maker {
        final int threshold;
        final int[] payouts = new int[MAX_MONTHS];
        int carriedSum = 0;
        int partsOfMonth = 0;
        int netsOfYear = 0;

        Maker(int threshold) {
            this.threshold = threshold;
        }

        int currentBalance() {
            return carriedSum + partsOfMonth;
        }

        void settle(int month) {
            int sum = currentBalance();
            boolean isPaidOut = sum > 0 && sum >= threshold;
            if (month >= 0 && month < payouts.length) {
                payouts[month] = isPaidOut ? sum : 0;
            }
            carriedSum = isPaidOut ? 0 : sum;
            partsOfMonth = 0;
        }

        int payoutOf(int month) {
            return month >= 0 && month < payouts.length ? payouts[month] : 0;
        }
    }

    private static final class Product {
        final int number;
        final Maker maker;
        final int[] prices = new int[LANDS];

        Product(int number, Maker maker, int price) {
            this.number = number;
            this.maker = maker;
            for (int land = 0; land < prices.length; land++) {
                prices[land] = price;
            }
        }

        int priceIn(Land land) {
            int place = land.number;
            return place >= 0 && place < prices.length ? prices[place] : 0;
        }

        int changePrice(Land land, int price) {
            int before = priceIn(land);
            int place = land.number;
            if (place >= 0 && place < prices.length) {
                prices[place] = price;
            }
            return before;
        }
    }

    private static final class Sale {
        final Maker maker;
        final Land land;
        final int month;
        final int paid;
        final int tax;
        final int share;
        final int part;
        // The land may change its mind later; a refund needs what held when the sale was made.
        final boolean isTaxHeld;
        boolean isRefunded = false;

        Sale(Maker maker, Land land, int month, int paid, int sharePercent) {
            this.maker = maker;
            this.land = land;
            this.month = month;
            this.paid = paid;
            tax = land.taxIn(paid);
            isTaxHeld = land.isHeld;
            int net = paid - tax;
            share = net * sharePercent / 100;
            part = net - share + (isTaxHeld ? 0 : tax);
        }
    }

    private static final class Subscription {
        final Land land;
        final boolean isFirstHalf;
        Product product;
        boolean isFailing = false;
        int failures = 0;
        int paymentsMade = 0;
        int nextDay;

        Subscription(Product product, Land land, int firstDay, boolean isFirstHalf) {
            this.product = product;
            this.land = land;
            this.isFirstHalf = isFirstHalf;
            nextDay = firstDay;
        }

        boolean isEnded() {
            return nextDay == NONE;
        }

        void end() {
            nextDay = NONE;
        }

        int priceOfNext() {
            int price = product.priceIn(land);
            return isFirstHalf && paymentsMade == 0 ? price / 2 : price;
        }

        void countPayment(int day) {
            paymentsMade++;
            failures = 0;
            nextDay = day + DAYS_BETWEEN_PAYMENTS;
        }

        void fail() {
            failures++;
            if (failures >= MAX_TRIES) {
                end();
            } else {
                nextDay++;
            }
        }
    }
}
