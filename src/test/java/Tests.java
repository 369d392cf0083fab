/** A plain harness: named tests, answers that are due, and calls that must throw and change nothing. */
final class Tests {
    interface Body {
        void run();
    }

    private static int passed = 0;
    private static int failed = 0;
    private static boolean isRight = true;

    private Tests() {
    }

    static void test(String name, Body body) {
        isRight = true;
        try {
            body.run();
        } catch (RuntimeException e) {
            wrong("threw " + e);
        }
        if (isRight) {
            passed++;
        } else {
            failed++;
            System.out.println("FAILED: " + name);
        }
    }

    static void due(String what, long got, long want) {
        if (got != want) {
            wrong(what + " answered " + got + ", due is " + want);
        }
    }

    static void due(String what, String got, String want) {
        if (!got.equals(want)) {
            wrong(what + " answered " + got + ", due is " + want);
        }
    }

    /** Tells the first line alone in which the answers differ. */
    static void dueLines(String what, String got, String want) {
        String[] gotLines = got.split("\n");
        String[] wantLines = want.split("\n");
        due(what + ", lines", gotLines.length, wantLines.length);
        for (int i = 0; i < Math.min(gotLines.length, wantLines.length); i++) {
            if (!gotLines[i].equals(wantLines[i])) {
                due(what + ", line " + i, gotLines[i], wantLines[i]);
                return;
            }
        }
    }

    static void noSuch(ShopPaymaster x, String call, Body body) {
        refused(x, IndexOutOfBoundsException.class, call, body);
    }

    static void badArgument(ShopPaymaster x, String call, Body body) {
        refused(x, IllegalArgumentException.class, call, body);
    }

    static void badState(ShopPaymaster x, String call, Body body) {
        refused(x, IllegalStateException.class, call, body);
    }

    private static void refused(ShopPaymaster x, Class<?> kind, String call, Body body) {
        String before = State.brief(x);
        due(call + " throws", thrownBy(body), kind.getSimpleName());
        due("the state after " + call, State.brief(x), before);
    }

    static String thrownBy(Body body) {
        try {
            body.run();
        } catch (RuntimeException e) {
            return e.getClass().getSimpleName() + thrower(e, ShopPaymaster.class);
        }
        return "nothing";
    }

    /** Empty if the class threw by itself; otherwise the machine or the library did, and it must not. */
    static String thrower(Throwable e, Class<?> due) {
        StackTraceElement[] calls = e.getStackTrace();
        String top = calls.length == 0 ? "nobody" : calls[0].getClassName();
        return top.startsWith(due.getName()) ? "" : " from " + top;
    }

    private static void wrong(String text) {
        isRight = false;
        System.out.println("  " + text);
    }

    static void end() {
        System.out.println(passed + " passed, " + failed + " failed");
        if (failed != 0) {
            System.exit(1);
        }
    }
}
