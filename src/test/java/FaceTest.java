import java.lang.reflect.Constructor;
import java.lang.reflect.Field;
import java.lang.reflect.Method;
import java.lang.reflect.Modifier;
import java.util.TreeSet;

/** The face of the class: just the members that the document lists. */
public final class FaceTest {
    private static final String[] FACE = {
        "addMaker(int) int IllegalArgumentException IllegalStateException",
        "addProduct(int, int) int IndexOutOfBoundsException IllegalArgumentException IllegalStateException",
        "balance(int) int IndexOutOfBoundsException",
        "buy(int, int) int IndexOutOfBoundsException IllegalArgumentException",
        "cancel(int) int IndexOutOfBoundsException IllegalStateException",
        "carried(int) int IndexOutOfBoundsException",
        "day() int",
        "heldTax(int) int IllegalArgumentException",
        "makerPart(int) int IndexOutOfBoundsException",
        "move(int, int) int IndexOutOfBoundsException IllegalArgumentException IllegalStateException",
        "next(int) int IndexOutOfBoundsException",
        "paid(int) int IndexOutOfBoundsException",
        "pass(int) int IllegalArgumentException IllegalStateException",
        "payments(int) int IndexOutOfBoundsException",
        "payout(int, int) int IndexOutOfBoundsException IllegalArgumentException",
        "refund(int) int IndexOutOfBoundsException IllegalStateException",
        "sales() int",
        "setFailing(int, boolean) void IndexOutOfBoundsException IllegalStateException",
        "setPrice(int, int, int) int IndexOutOfBoundsException IllegalArgumentException",
        "setTax(int, int, boolean) int IllegalArgumentException",
        "shop() int",
        "shopShare(int) int IndexOutOfBoundsException",
        "subscribe(int, int, int, boolean) int"
                + " IndexOutOfBoundsException IllegalArgumentException IllegalStateException",
        "takings() int",
        "tax(int) int IndexOutOfBoundsException",
    };

    public static void main(String[] args) {
        Tests.test("the methods of the face", FaceTest::methods);
        Tests.test("the constants and constructors of the face", FaceTest::constantsAndConstructors);
        Tests.test("the classes inside", FaceTest::classesInside);
        Tests.end();
    }

    private static void methods() {
        TreeSet<String> found = new TreeSet<>();
        TreeSet<String> names = new TreeSet<>();
        for (Method method : ShopPaymaster.class.getDeclaredMethods()) {
            if (!Modifier.isPrivate(method.getModifiers())) {
                Tests.due(method.getName() + " is public", method.getModifiers(), Modifier.PUBLIC);
                found.add(text(method));
                names.add(method.getName());
            }
        }
        for (Method method : ShopPaymaster.class.getDeclaredMethods()) {
            if (Modifier.isPrivate(method.getModifiers()) && names.contains(method.getName())) {
                Tests.due(method.getName() + " has a private namesake", 1, 0);
            }
        }
        Tests.due("methods", String.join("\n", found), String.join("\n", FACE));
    }

    private static String text(Method method) {
        StringBuilder text = new StringBuilder(method.getName()).append('(');
        String gap = "";
        for (Class<?> type : method.getParameterTypes()) {
            text.append(gap).append(type.getSimpleName());
            gap = ", ";
        }
        text.append(") ").append(method.getReturnType().getSimpleName());
        for (Class<?> type : method.getExceptionTypes()) {
            text.append(' ').append(type.getSimpleName());
        }
        return text.toString();
    }

    private static void constantsAndConstructors() {
        Tests.due("public and final", ShopPaymaster.class.getModifiers(), Modifier.PUBLIC | Modifier.FINAL);
        for (Field field : ShopPaymaster.class.getDeclaredFields()) {
            boolean isFace = field.getName().equals("NONE");
            boolean isHidden = Modifier.isPrivate(field.getModifiers());
            Tests.due(field.getName() + " is private", isHidden ? 1 : 0, isFace ? 0 : 1);
        }
        Constructor<?>[] constructors = ShopPaymaster.class.getDeclaredConstructors();
        Tests.due("constructors", constructors.length, 1);
        Tests.due("its modifiers", constructors[0].getModifiers(), Modifier.PUBLIC);
        Tests.due("its parameters", constructors[0].getParameterCount(), 0);
    }

    private static void classesInside() {
        for (Class<?> inside : ShopPaymaster.class.getDeclaredClasses()) {
            int modifiers = inside.getModifiers();
            boolean isHidden = !Modifier.isPublic(modifiers) && !Modifier.isProtected(modifiers);
            Tests.due(inside.getName() + " is hidden", isHidden ? 1 : 0, 1);
            Tests.due(inside.getName() + " is static", Modifier.isStatic(modifiers) ? 1 : 0, 1);
        }
    }
}
