import java.io.File;
import java.io.IOException;
import java.io.UncheckedIOException;
import java.lang.reflect.InvocationTargetException;
import java.lang.reflect.Method;
import java.lang.reflect.Modifier;
import java.nio.file.Files;
import java.nio.file.Path;
import java.util.TreeSet;
import java.util.regex.Matcher;
import java.util.regex.Pattern;

/** README.md tells the calls in the document's words, and its example answers what the class answers. */
public final class ReadmeTest {
    private static final String README = text("README.md");
    private static final String DOCUMENT = text("../shared/DOC.md");

    private static final String MAKING = "ShopPaymaster shop = new ShopPaymaster();";
    private static final Pattern STEP = Pattern.compile("shop\\.(\\w+)\\(([^)]*)\\);\\s*// (.*)");
    private static final int PROMISES = 26;

    public static void main(String[] args) {
        Tests.test("what the class is, in the document's words", ReadmeTest::head);
        Tests.test("the terms, in the document's words", ReadmeTest::terms);
        for (int promise = 2; promise <= PROMISES; promise++) {
            int number = promise;
            Tests.test("promise " + number + " has its row, in the document's words", () -> row(number));
        }
        Tests.test("a row for each call, and no other row", ReadmeTest::rows);
        Tests.test("the answers of the example are those of the class", ReadmeTest::exampleAnswers);
        Tests.test("the example has each call", ReadmeTest::exampleCalls);
        Tests.test("how the tests are run: each test is told", ReadmeTest::testsAreTold);
        Tests.end();
    }

    private static String text(String path) {
        try {
            return Files.readString(Path.of(path));
        } catch (IOException e) {
            throw new UncheckedIOException(e);
        }
    }

    private static String onOneLine(String text) {
        return text.replaceAll("\\s+", " ").trim();
    }

    private static void stands(String what, String place, String words) {
        Tests.due(what + " stands: " + words, place.contains(words) ? 1 : 0, 1);
    }

    /** The part of the document behind the line of that title, up to the next title of this rank or above. */
    private static String part(String title) {
        int from = DOCUMENT.indexOf("\n" + title + "\n");
        if (from < 0) {
            return "";
        }
        String behind = DOCUMENT.substring(from + title.length() + 2);
        return behind.split(title.startsWith("###") ? "\n##" : "\n## ")[0].trim();
    }

    private static void head() {
        String readme = onOneLine(README);
        for (String sentence : part("## What it is").split("\n\n")) {
            stands("what it is", readme, onOneLine(sentence));
        }
        stands("a new object", readme, "No makers, products and sales; it is the day 0.");
        stands("the constant", readme, "`ShopPaymaster.NONE` is -1: There is none.");
    }

    private static void terms() {
        String readme = onOneLine(README);
        stands("days", readme, onOneLine(part("## Terms").split("\n\n")[1]));
        for (String title : new String[] {"Shop", "Sales", "Subscriptions", "Refunds and payouts", "A day"}) {
            for (String paragraph : part("### " + title).split("\n\n")) {
                boolean isTerm = !paragraph.startsWith("Ahead of") && !paragraph.startsWith("The constants");
                stands(title, readme, isTerm ? onOneLine(paragraph) : "");
            }
        }
    }

    private static String promise(int number) {
        Matcher title = Pattern.compile("(?m)^## Promise " + number + ": .*$").matcher(DOCUMENT);
        return title.find() ? part(title.group()) : "";
    }

    private static String signature(String promise) {
        Matcher face = Pattern.compile("^`([^`]*?)( throws [^`]*)?`").matcher(promise);
        return face.find() ? face.group(1) : "no signature";
    }

    private static void row(int number) {
        String promise = promise(number);
        String start = "| `" + signature(promise) + "` | ";
        int from = README.indexOf("\n" + start);
        Tests.due("a row begins with " + start, from >= 0 ? 1 : 0, 1);
        String row = README.substring(from + 1).split("\n")[0];
        int throwing = 0;
        for (String line : promise.substring(promise.indexOf("`: ") + 3).split("\n")) {
            String words = line.startsWith("- ") ? line.substring(2) : line.replaceFirst("^Throws ", "");
            throwing += line.startsWith("Throws ") ? 1 : 0;
            stands("promise " + number, row, words);
        }
        Tests.due("exceptions of the row", row.split("Exception`", -1).length - 1, throwing);
    }

    private static TreeSet<String> namesOfFace() {
        TreeSet<String> names = new TreeSet<>();
        for (Method method : ShopPaymaster.class.getDeclaredMethods()) {
            if (Modifier.isPublic(method.getModifiers())) {
                names.add(method.getName());
            }
        }
        return names;
    }

    private static void rows() {
        TreeSet<String> names = new TreeSet<>();
        Matcher row = Pattern.compile("(?m)^\\| `\\w+ (\\w+)\\(").matcher(README);
        while (row.find()) {
            Tests.due("rows of " + row.group(1), names.add(row.group(1)) ? 1 : 2, 1);
        }
        Tests.due("calls", names.toString(), namesOfFace().toString());
    }

    private static String[] example() {
        String[] parts = README.split("\n```(java)?\n");
        return parts.length == 3 ? parts[1].split("\n") : new String[] {"not just one example"};
    }

    private static void exampleAnswers() {
        String[] lines = example();
        Tests.due("the first line", lines[0], MAKING);
        ShopPaymaster shop = new ShopPaymaster();
        for (int i = 1; i < lines.length; i++) {
            if (!lines[i].isEmpty() && !lines[i].startsWith("// ")) {
                exampleStep(shop, lines[i]);
            }
        }
    }

    private static void exampleStep(ShopPaymaster shop, String line) {
        Matcher step = STEP.matcher(line);
        Tests.due("a call and its answer: " + line, step.matches() ? 1 : 0, 1);
        String due = step.group(3).split(":")[0];
        Tests.due(line, answer(shop, step.group(1), step.group(2)), due);
    }

    private static String answer(ShopPaymaster shop, String name, String arguments) {
        String[] texts = arguments.isEmpty() ? new String[0] : arguments.split(", ");
        for (Method method : ShopPaymaster.class.getMethods()) {
            if (method.getName().equals(name) && method.getParameterCount() == texts.length) {
                return answer(shop, method, texts);
            }
        }
        return "no such call";
    }

    private static String answer(ShopPaymaster shop, Method method, String[] texts) {
        Object[] values = new Object[texts.length];
        for (int i = 0; i < values.length; i++) {
            boolean isFlag = method.getParameterTypes()[i] == boolean.class;
            values[i] = isFlag ? (Object) texts[i].equals("true") : (Object) Integer.parseInt(texts[i]);
        }
        try {
            Object answer = method.invoke(shop, values);
            return answer == null ? "no answer" : answer.toString();
        } catch (InvocationTargetException e) {
            return "throws " + e.getCause().getClass().getSimpleName();
        } catch (IllegalAccessException e) {
            return "can't be called";
        }
    }

    private static void exampleCalls() {
        TreeSet<String> names = new TreeSet<>();
        for (String line : example()) {
            Matcher step = STEP.matcher(line);
            if (step.matches()) {
                names.add(step.group(1));
            }
        }
        Tests.due("calls", names.toString(), namesOfFace().toString());
    }

    private static void testsAreTold() {
        stands("the script", README, "\n    .ci/run\n");
        String[] files = new File("src/test/java").list();
        Tests.due("tests are found", files != null && files.length > 0 ? 1 : 0, 1);
        for (String file : files) {
            stands(file, README, "`" + file.replace(".java", "") + "`");
        }
    }
}
