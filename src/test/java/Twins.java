/**
 * Two objects with the same past: one of them is asked for a call that it must refuse, and then all that they
 * answer must be the same.
 */
final class Twins {
    static final Class<?> NO_SUCH = IndexOutOfBoundsException.class;
    static final Class<?> BAD_ARGUMENT = IllegalArgumentException.class;
    static final Class<?> BAD_STATE = IllegalStateException.class;

    interface Past {
        ShopPaymaster made();
    }

    interface Call {
        void on(ShopPaymaster x);
    }

    interface CallWith {
        void on(ShopPaymaster x, int value);
    }

    private Twins() {
    }

    static void refused(String what, Class<?> kind, Past past, Call call) {
        Tests.test(what, () -> {
            ShopPaymaster asked = past.made();
            ShopPaymaster twin = past.made();
            Tests.due("it throws what", Tests.thrownBy(() -> call.on(asked)), kind.getSimpleName());
            Tests.dueLines("what follows", Aftermath.of(asked), Aftermath.of(twin));
        });
    }

    /** The two ends of a range are allowed; the values next to it, and the last ones that there are, are refused. */
    static void range(String what, int least, int most, Class<?> kind, Past past, CallWith call) {
        allowed(what, least, past, call);
        allowed(what, most, past, call);
        outside(what, least, most, kind, past, call);
    }

    static void outside(String what, int least, int most, Class<?> kind, Past past, CallWith call) {
        for (int value : new int[] {least - 1, most + 1, Integer.MIN_VALUE, Integer.MAX_VALUE}) {
            refused(what + ": " + value + " is refused", kind, past, x -> call.on(x, value));
        }
    }

    private static void allowed(String what, int value, Past past, CallWith call) {
        Tests.test(what + ": " + value + " is allowed", () -> {
            ShopPaymaster asked = past.made();
            Tests.due("it throws what", Tests.thrownBy(() -> call.on(asked, value)), "nothing");
        });
    }
}
