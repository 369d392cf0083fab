import java.util.ArrayList;

/**
 * The document once more, as slow and as plain as can be: it keeps what happened and counts all sums anew for
 * each question. ModelTest holds the class against it.
 */
public final class PlainModel {
    private static final class Sold {
        int maker;
        int land;
        int day;
        int paid;
        int tax;
        int share;
        boolean isHeld;
        int refundDay = -1;

        int net() {
            return paid - tax;
        }

        int part() {
            return paid - share - (isHeld ? tax : 0);
        }
    }

    private static final class Plan {
        int product;
        int land;
        int due;
        int tries;
        int made;
        boolean isHalf;
        boolean isFailing;
        boolean isOver;
    }

    private final int[] rates = new int[5];
    private final boolean[] isHeldIn = {true, true, true, true, true};
    private final ArrayList<Integer> thresholds = new ArrayList<>();
    private final ArrayList<Integer> owners = new ArrayList<>();
    private final ArrayList<int[]> prices = new ArrayList<>();
    private final ArrayList<Sold> sold = new ArrayList<>();
    private final ArrayList<Plan> plans = new ArrayList<>();
    private int today = 0;

    private static void index(boolean isGood) {
        if (!isGood) {
            throw new IndexOutOfBoundsException();
        }
    }

    private static void argument(boolean isGood) {
        if (!isGood) {
            throw new IllegalArgumentException();
        }
    }

    private static void state(boolean isGood) {
        if (!isGood) {
            throw new IllegalStateException();
        }
    }

    private static boolean isIn(int value, int least, int most) {
        return least <= value && value <= most;
    }

    public int setTax(int land, int rate, boolean isHeld) {
        argument(isIn(land, 0, 4) && isIn(rate, 0, 30));
        int before = rates[land];
        rates[land] = rate;
        isHeldIn[land] = isHeld;
        return before;
    }

    public int addMaker(int threshold) {
        argument(isIn(threshold, 0, 1000000));
        state(thresholds.size() < 6);
        thresholds.add(threshold);
        return thresholds.size() - 1;
    }

    public int addProduct(int maker, int price) {
        index(isIn(maker, 0, thresholds.size() - 1));
        argument(isIn(price, 0, 100000));
        state(owners.size() < 20);
        owners.add(maker);
        prices.add(new int[] {price, price, price, price, price});
        return owners.size() - 1;
    }

    public int setPrice(int product, int land, int price) {
        index(isIn(product, 0, owners.size() - 1));
        argument(isIn(land, 0, 4) && isIn(price, 0, 100000));
        int before = prices.get(product)[land];
        prices.get(product)[land] = price;
        return before;
    }

    public int buy(int product, int land) {
        index(isIn(product, 0, owners.size() - 1));
        argument(isIn(land, 0, 4));
        sell(product, land, prices.get(product)[land], 0);
        return sold.size() - 1;
    }

    private void sell(int product, int land, int price, int payment) {
        Sold sale = new Sold();
        sale.maker = owners.get(product);
        sale.land = land;
        sale.day = today;
        sale.paid = price;
        sale.tax = (int) Math.floor(price * (double) rates[land] / (100 + rates[land]) + 1e-9);
        sale.isHeld = isHeldIn[land];
        long nets = 0;
        for (Sold other : sold) {
            if (other.maker == sale.maker && other.day / 360 == today / 360) {
                nets += other.net();
            }
        }
        boolean isSmall = payment > 12 || nets <= 999999;
        sale.share = isSmall ? sale.net() * 3 / 20 : sale.net() * 3 / 10;
        sold.add(sale);
    }

    public int refund(int sale) {
        index(isIn(sale, 0, sold.size() - 1));
        Sold back = sold.get(sale);
        state(back.refundDay < 0 && today < (back.day / 30 + 4) * 30);
        back.refundDay = today;
        return back.paid;
    }

    public int sales() {
        return sold.size();
    }

    public int paid(int sale) {
        index(isIn(sale, 0, sold.size() - 1));
        return sold.get(sale).paid;
    }

    public int tax(int sale) {
        index(isIn(sale, 0, sold.size() - 1));
        return sold.get(sale).tax;
    }

    public int shopShare(int sale) {
        index(isIn(sale, 0, sold.size() - 1));
        return sold.get(sale).share;
    }

    public int makerPart(int sale) {
        index(isIn(sale, 0, sold.size() - 1));
        return sold.get(sale).part();
    }

    public int subscribe(int product, int land, int days, boolean isHalf) {
        index(isIn(product, 0, owners.size() - 1));
        argument(isIn(land, 0, 4) && isIn(days, 1, 60));
        state(plans.size() < 40);
        Plan plan = new Plan();
        plan.product = product;
        plan.land = land;
        plan.due = today + days;
        plan.isHalf = isHalf;
        plans.add(plan);
        return plans.size() - 1;
    }

    public int move(int subscription, int product) {
        index(isIn(subscription, 0, plans.size() - 1) && isIn(product, 0, owners.size() - 1));
        Plan plan = plans.get(subscription);
        int before = plan.product;
        argument(before != product && owners.get(before).equals(owners.get(product)));
        state(!plan.isOver);
        plan.product = product;
        return before;
    }

    public void setFailing(int subscription, boolean isFailing) {
        index(isIn(subscription, 0, plans.size() - 1));
        state(!plans.get(subscription).isOver);
        plans.get(subscription).isFailing = isFailing;
    }

    public int cancel(int subscription) {
        index(isIn(subscription, 0, plans.size() - 1));
        state(!plans.get(subscription).isOver);
        plans.get(subscription).isOver = true;
        return plans.get(subscription).made;
    }

    public int payments(int subscription) {
        index(isIn(subscription, 0, plans.size() - 1));
        return plans.get(subscription).made;
    }

    public int next(int subscription) {
        index(isIn(subscription, 0, plans.size() - 1));
        Plan plan = plans.get(subscription);
        return plan.isOver ? -1 : plan.due + plan.tries;
    }

    private int balanceWithin(int maker, int month, int carried) {
        int sum = carried;
        for (Sold sale : sold) {
            if (sale.maker == maker && sale.day / 30 == month) {
                sum += sale.part();
            }
            if (sale.maker == maker && sale.refundDay >= 0 && sale.refundDay / 30 == month) {
                sum -= sale.part();
            }
        }
        return sum;
    }

    private int carriedInto(int maker, int month) {
        int carried = 0;
        for (int closed = 0; closed < month; closed++) {
            int sum = balanceWithin(maker, closed, carried);
            carried = sum > 0 && sum >= thresholds.get(maker) ? 0 : sum;
        }
        return carried;
    }

    public int payout(int maker, int month) {
        index(isIn(maker, 0, thresholds.size() - 1));
        argument(isIn(month, 0, today / 30 - 1));
        int sum = balanceWithin(maker, month, carriedInto(maker, month));
        return sum > 0 && sum >= thresholds.get(maker) ? sum : 0;
    }

    public int carried(int maker) {
        index(isIn(maker, 0, thresholds.size() - 1));
        return carriedInto(maker, today / 30);
    }

    public int balance(int maker) {
        index(isIn(maker, 0, thresholds.size() - 1));
        return balanceWithin(maker, today / 30, carriedInto(maker, today / 30));
    }

    public int heldTax(int land) {
        argument(isIn(land, 0, 4));
        int sum = 0;
        for (Sold sale : sold) {
            sum += sale.land == land && sale.isHeld && sale.refundDay < 0 ? sale.tax : 0;
        }
        return sum;
    }

    public int shop() {
        int sum = 0;
        for (Sold sale : sold) {
            sum += sale.refundDay < 0 ? sale.share : 0;
        }
        return sum;
    }

    public int takings() {
        int sum = 0;
        for (Sold sale : sold) {
            sum += sale.refundDay < 0 ? sale.paid : 0;
        }
        return sum;
    }

    public int pass(int days) {
        argument(isIn(days, 1, 400));
        state(today + days <= 3600);
        int made = 0;
        for (int end = today + days; today < end; ) {
            today++;
            for (Plan plan : plans) {
                made += !plan.isOver && plan.due + plan.tries == today && isPaid(plan) ? 1 : 0;
            }
        }
        return made;
    }

    private boolean isPaid(Plan plan) {
        if (plan.isFailing) {
            plan.tries++;
            plan.isOver = plan.tries == 6;
            return false;
        }
        int price = prices.get(plan.product)[plan.land];
        plan.made++;
        sell(plan.product, plan.land, plan.isHalf && plan.made == 1 ? price / 2 : price, plan.made);
        plan.due = today + 30;
        plan.tries = 0;
        return true;
    }

    public int day() {
        return today;
    }
}
