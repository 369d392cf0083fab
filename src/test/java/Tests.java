/** A plain harness: named tests, answers that are due, and calls that must throw and change nothing. */
final class Tests {
    interface Body {
        void run();
    }

    private static int passed = 0;
    private static int failed = 0;
    private static boolean isRight = true;

    private Tests() {
    }

    static void test(String name, Body body) {
        isRight = true;
        try {
            body.run();
        } catch (RuntimeException e) {
            wrong("threw " + e);
        }
        if (isRight) {
            passed++;
        } else {
            failed++;
            System.out.println("FAILED: " + name);
        }
    }

    static void due(String what, long got, long want) {
        if (got != want) {
            wrong(what + " answered " + got + ", due is " + want);
        }
    }

    static void due(String what, String got, String want) {
        if (!got.equals(want)) {
            wrong(what + " answered " + got + ", due is " + want);
        }
    }

    static void noSuch(ShopPaymaster x, String call, Body body) {
        refused(x, IndexOutOfBoundsException.class, call, body);
    }

    static void badArgument(ShopPaymaster x, String call, Body body) {
        refused(x, IllegalArgumentException.class, call, body);
    }

    static void badState(ShopPaymaster x, String call, Body body) {
        refused(x, IllegalStateException.class, call, body);
    }

    private static void refused(ShopPaymaster x, Class<?> kind, String call, Body body) {
        String before = State.brief(x);
        String thrown = "nothing";
        try {
            body.run();
        } catch (RuntimeException e) {
            thrown = e.getClass().getSimpleName() + thrower(e);
        }
        due(call + " throws", thrown, kind.getSimpleName());
        due("the state after " + call, State.brief(x), before);
    }

    /** Empty if the class threw by itself; otherwise the machine or the library did, and it must not. */
    private static String thrower(RuntimeException e) {
        StackTraceElement[] calls = e.getStackTrace();
        String top = calls.length == 0 ? "nobody" : calls[0].getClassName();
        return top.startsWith("ShopPaymaster") ? "" : " from " + top;
    }

    private static void wrong(String text) {
        isRight = false;
        System.out.println("  " + text);
    }

    static void end() {
        System.out.println(passed + " passed, " + failed + " failed");
        if (failed != 0) {
            System.exit(1);
        }
    }
}
