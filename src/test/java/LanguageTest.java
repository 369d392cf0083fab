import java.io.IOException;
import java.io.UncheckedIOException;
import java.lang.reflect.Field;
import java.lang.reflect.Method;
import java.lang.reflect.Modifier;
import java.nio.file.Files;
import java.nio.file.Path;
import java.util.ArrayList;
import java.util.List;
import java.util.regex.Matcher;
import java.util.regex.Pattern;

/** The rules of LANGUAGE.md that can be looked up in the text of the class, or asked of it; FaceTest has rule 1. */
public final class LanguageTest {
    private static final String TEXT = textWithoutComments();

    private static final String IMPORT = "import (\\S+);";
    private static final String THROWN = "throw new (\\w+)\\(";
    private static final String CALLED_ON_LIBRARY = "\\b(System|Arrays|Integer|Long|Math|String|List)\\.(\\w+)";
    private static final List<String> EXCEPTIONS = List.of("IllegalStateException", "IllegalArgumentException",
            "IndexOutOfBoundsException", "ArithmeticException", "UnsupportedOperationException",
            "NoSuchElementException", "RuntimeException");
    private static final List<Class<?>> CONSTANTS = List.of(int.class, long.class, boolean.class, char.class,
            String.class, int[].class, long[].class, char[].class, byte[].class);

    public static void main(String[] args) {
        Tests.test("rule 2: classes inside are static or enums, and none is local", LanguageTest::classesInside);
        Tests.test("rules 2 and 6: no lambda, method reference, finally, assert or the like", LanguageTest::words);
        Tests.test("rule 4: nothing of the library but what is listed", LanguageTest::library);
        Tests.test("rule 5: static fields are constants", LanguageTest::constants);
        Tests.test("rule 6: exceptions of the list, thrown with a written text", LanguageTest::exceptions);
        Tests.test("rule 7: a divisor is looked at before it divides", LanguageTest::divisors);
        Tests.test("rule 7: an index is looked at before it is used", LanguageTest::indexes);
        Tests.test("rule 7: lengths of arrays are constants, and there are no casts", LanguageTest::lengthsAndCasts);
        Tests.test("rule 9: every loop has a condition", LanguageTest::loops);
        Tests.test("rule 11: parameters, classes and fields", LanguageTest::sizes);
        Tests.test("rule 11: methods stay short", LanguageTest::shortMethods);
        Tests.end();
    }

    private static String textWithoutComments() {
        try {
            String text = Files.readString(Path.of("src/main/java/ShopPaymaster.java"));
            return text.replaceAll("(?s)/\\*.*?\\*/", "").replaceAll("//[^\n]*", "");
        } catch (IOException e) {
            throw new UncheckedIOException(e);
        }
    }

    private static List<Class<?>> classes() {
        List<Class<?>> all = new ArrayList<>();
        all.add(ShopPaymaster.class);
        all.addAll(List.of(ShopPaymaster.class.getDeclaredClasses()));
        return all;
    }

    private static List<String> found(String pattern, int group) {
        List<String> all = new ArrayList<>();
        Matcher matcher = Pattern.compile(pattern).matcher(TEXT);
        while (matcher.find()) {
            all.add(matcher.group(group));
        }
        return all;
    }

    private static void none(String what, String pattern) {
        Tests.due(what, String.join(" ", found(pattern, 0)), "");
    }

    private static void classesInside() {
        none("classes of methods", "\\n {8,}(final |abstract )?(class|record|enum|interface) ");
        none("classes without a name", "new \\w+\\([^)]*\\) \\{");
        for (Class<?> inside : ShopPaymaster.class.getDeclaredClasses()) {
            Tests.due(inside.getName() + " is static", Modifier.isStatic(inside.getModifiers()) ? 1 : 0, 1);
        }
    }

    private static void words() {
        none("lambdas and method references", "->|::");
        none("words", "\\b(finally|synchronized|assert|goto|native|transient|volatile|instanceof|var|yield)\\b");
        none("methods of all objects", "\\b(equals|hashCode|toString|getClass|getMessage)\\(");
        none("texts that are joined by +", "\" \\+|\\+ \"");
        none("a package", "\\bpackage\\b");
    }

    private static void library() {
        for (String imported : found(IMPORT, 1)) {
            Tests.due("import", imported, "java.util.ArrayList");
        }
        Tests.due("calls on the library", String.join(" ", found(CALLED_ON_LIBRARY, 0)), "");
        none("clocks, randomness, files and threads",
                "\\b(Random|Thread|Runtime|Process|File|Files|Path|Clock|Instant|Date|nanoTime|getenv|Object)\\b");
        for (String list : found("new ArrayList<(\\w*)>", 1)) {
            Tests.due("a list's type is told by its field", list, "");
        }
    }

    private static void constants() {
        for (Class<?> each : classes()) {
            for (Field field : each.getDeclaredFields()) {
                if (Modifier.isStatic(field.getModifiers())) {
                    Tests.due(field + " is final", Modifier.isFinal(field.getModifiers()) ? 1 : 0, 1);
                    Tests.due(field + " is a constant", CONSTANTS.contains(field.getType()) ? 1 : 0, 1);
                }
            }
        }
        none("static blocks", "static \\{");
    }

    private static void exceptions() {
        for (String thrown : found(THROWN, 1)) {
            Tests.due(thrown + " is of the list", EXCEPTIONS.contains(thrown) ? 1 : 0, 1);
        }
        Tests.due("all throws are of this form", found("\\bthrow\\b", 0).size(),
                found("throw new \\w+\\((\"[^\"]*\")?\\);", 0).size());
        none("catches", "\\bcatch\\b");
        none("exceptions of its own", "extends \\w*(Exception|Error|Throwable)");
    }

    private static void divisors() {
        Pattern division = Pattern.compile("[/%]=? ?(\\w+|\\W)");
        for (String method : methods()) {
            Matcher matcher = division.matcher(method);
            while (matcher.find()) {
                String divisor = matcher.group(1);
                boolean isConstant = divisor.matches("[A-Z_]+|[1-9]\\d*");
                boolean isLookedAt = isConstant || isBefore(method, matcher.start(), divisor + " > 0 ");
                Tests.due("looked at: " + matcher.group(), isLookedAt ? 1 : 0, 1);
            }
        }
    }

    private static void indexes() {
        Pattern use = Pattern.compile("(?<!new )\\b(\\w+)(\\.get\\(|\\.set\\(|\\.remove\\(|\\[)([^\\])]+)[\\])]");
        int uses = 0;
        for (String method : methods()) {
            Matcher matcher = use.matcher(method);
            while (matcher.find()) {
                uses++;
                String length = matcher.group(1) + (matcher.group(2).equals("[") ? ".length" : ".size()");
                boolean isLookedAt = isBefore(method, matcher.start(), matcher.group(3) + " < " + length)
                        || isBefore(method, matcher.start(), matcher.group(3) + " >= " + length);
                Tests.due("looked at: " + matcher.group(), isLookedAt ? 1 : 0, 1);
            }
        }
        Tests.due("indexes are found", uses > 10 ? 1 : 0, 1);
    }

    private static boolean isBefore(String text, int end, String part) {
        int at = text.indexOf(part);
        return at >= 0 && at < end;
    }

    private static void lengthsAndCasts() {
        for (String length : found("new \\w+\\[([^\\]]*)\\]", 1)) {
            Tests.due(length + " is a constant", length.matches("[A-Z_]+") ? 1 : 0, 1);
        }
        none("casts", "\\((int|long|short|byte|char|boolean|double|float|[A-Z]\\w*)(\\[\\])?\\) [\\w(]");
    }

    private static void loops() {
        none("loops without a condition", "while \\(true\\)|for \\([^;]*; *;");
    }

    private static void sizes() {
        Tests.due("at most 12 classes", classes().size() <= 12 ? 1 : 0, 1);
        for (Class<?> each : classes()) {
            int fields = 0;
            for (Field field : each.getDeclaredFields()) {
                fields += Modifier.isStatic(field.getModifiers()) ? 0 : 1;
            }
            Tests.due(each.getName() + " has at most 20 fields", fields <= 20 ? 1 : 0, 1);
            for (Method method : each.getDeclaredMethods()) {
                Tests.due(method + " has at most 7 parameters", method.getParameterCount() <= 7 ? 1 : 0, 1);
            }
        }
    }

    private static void shortMethods() {
        for (String method : methods()) {
            int lines = method.split("\n").length - 2;
            Tests.due("at most 60 lines: " + method.split("\n")[0], lines <= 60 ? 1 : 0, 1);
        }
    }

    /** The text of each method and constructor, from its name to its last brace. */
    private static List<String> methods() {
        Matcher method = Pattern.compile("(?s)\\n( {4}| {8})[^ \\n][^\\n;]*\\)[^;]*? \\{\\n(.*?)\\n\\1}").matcher(TEXT);
        List<String> all = new ArrayList<>();
        for (int from = 0; method.find(from); from = method.end()) {
            all.add(method.group().trim());
        }
        Tests.due("methods are found", all.size() > 40 ? 1 : 0, 1);
        return all;
    }
}
