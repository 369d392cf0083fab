import java.lang.reflect.InvocationTargetException;
import java.lang.reflect.Method;
import java.util.HashMap;

/** Long mixed runs of calls, wrong ones among them, each answer held against PlainModel. */
public final class ModelTest {
    private static final int RUNS_OF_A_KIND = 150;
    private static final int CALLS = 512;

    /** A call's name, how often it comes, and what its arguments are. */
    private static final String[] CALLS_AND_ARGUMENTS = {
        "setTax 4 land rate flag",
        "addMaker 3 threshold",
        "addProduct 6 maker price",
        "setPrice 6 product land price",
        "buy 30 product land",
        "refund 14 sale",
        "sales 1",
        "paid 3 sale",
        "tax 4 sale",
        "shopShare 6 sale",
        "makerPart 5 sale",
        "subscribe 10 product land days flag",
        "move 8 subscription product",
        "setFailing 9 subscription flag",
        "cancel 2 subscription",
        "payments 4 subscription",
        "next 6 subscription",
        "payout 8 maker month",
        "carried 5 maker",
        "balance 6 maker",
        "heldTax 3 land",
        "shop 2",
        "takings 2",
        "pass 22 passed",
        "day 2",
    };

    private static final HashMap<String, Method> OF_CLASS = methods(ShopPaymaster.class);
    private static final HashMap<String, Method> OF_MODEL = methods(PlainModel.class);

    private final ShopPaymaster object = new ShopPaymaster();
    private final PlainModel model = new PlainModel();
    private final int longestPass;
    private final boolean isDear;
    private long seed;

    private ModelTest(long seed, int longestPass, boolean isDear) {
        this.seed = seed * 7919 + 17;
        this.longestPass = longestPass;
        this.isDear = isDear;
    }

    public static void main(String[] args) {
        Tests.test("short passes, cheap goods", () -> runs(8, false));
        Tests.test("short passes, dear goods", () -> runs(8, true));
        Tests.test("months pass", () -> runs(45, true));
        Tests.test("years pass", () -> runs(400, true));
        Tests.end();
    }

    private static void runs(int longestPass, boolean isDear) {
        for (int run = 0; run < RUNS_OF_A_KIND; run++) {
            if (!new ModelTest(run, longestPass, isDear).isRunRight(run)) {
                return;
            }
        }
    }

    private static HashMap<String, Method> methods(Class<?> owner) {
        HashMap<String, Method> found = new HashMap<>();
        for (Method method : owner.getMethods()) {
            found.put(method.getName(), method);
        }
        return found;
    }

    private boolean isRunRight(int run) {
        StringBuilder told = new StringBuilder();
        for (int i = 0; i < CALLS; i++) {
            String[] call = i < 8 ? setUp(i) : anyCall();
            Object[] values = values(call);
            String want = answer(OF_MODEL, model, call[0], values);
            String got = answer(OF_CLASS, object, call[0], values);
            told.append(call[0]).append(java.util.Arrays.toString(values)).append(' ').append(want).append('\n');
            if (!got.equals(want)) {
                System.out.println(told);
                Tests.due("run " + run + ": the last call", got, want);
                return false;
            }
        }
        return true;
    }

    private static String[] setUp(int i) {
        if (i < 2) {
            return "addMaker 1 threshold".split(" ");
        }
        return (i < 5 ? "addProduct 1 maker price" : "subscribe 1 product land days flag").split(" ");
    }

    private String[] anyCall() {
        int all = 0;
        for (String call : CALLS_AND_ARGUMENTS) {
            all += Integer.parseInt(call.split(" ")[1]);
        }
        int at = below(all);
        for (String call : CALLS_AND_ARGUMENTS) {
            at -= Integer.parseInt(call.split(" ")[1]);
            if (at < 0) {
                return call.split(" ");
            }
        }
        return new String[] {"day", "1"};
    }

    private Object[] values(String[] call) {
        Object[] values = new Object[call.length - 2];
        for (int i = 0; i < values.length; i++) {
            values[i] = value(call[i + 2]);
        }
        return values;
    }

    private Object value(String kind) {
        switch (kind) {
            case "flag":
                return below(2) == 0;
            case "land":
                return number(0, 4);
            case "rate":
                return number(0, 30);
            case "threshold":
                return below(3) == 0 ? number(0, 1000000) : number(0, isDear ? 150000 : 3000);
            case "maker":
                return number(0, below(4) == 0 ? 5 : 1);
            case "price":
                return isDear ? number(0, 100000) : number(0, below(2) == 0 ? 2000 : 9);
            case "product":
                return number(0, below(4) == 0 ? 19 : 4);
            case "sale":
                return number(0, Math.max(0, model.sales() - 1));
            case "days":
                return number(1, below(2) == 0 ? 60 : 5);
            case "subscription":
                return number(0, below(2) == 0 ? 39 : 4);
            case "month":
                return number(0, Math.max(0, model.day() / 30 - 1));
            default:
                return number(1, longestPass);
        }
    }

    /** Mostly between the bounds, often at one of them, and at times outside. */
    private int number(int least, int most) {
        int kind = below(40);
        if (kind == 0) {
            return least - 1;
        }
        if (kind == 1) {
            return most + 1;
        }
        if (kind == 2) {
            return below(2) == 0 ? Integer.MIN_VALUE : Integer.MAX_VALUE;
        }
        if (kind < 6) {
            return kind % 2 == 0 ? least : most;
        }
        return least + below(most - least + 1);
    }

    private int below(int bound) {
        seed = (seed * 0x5DEECE66DL + 0xBL) & ((1L << 48) - 1);
        return (int) ((seed >>> 17) % bound);
    }

    private static String answer(HashMap<String, Method> methods, Object target, String name, Object[] values) {
        try {
            return "answers " + methods.get(name).invoke(target, values);
        } catch (InvocationTargetException e) {
            return "throws " + e.getCause().getClass().getSimpleName() + Tests.thrower(e.getCause(), target.getClass());
        } catch (IllegalAccessException e) {
            return "can't be called";
        }
    }
}
