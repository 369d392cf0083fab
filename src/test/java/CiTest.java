import java.io.File;
import java.io.IOException;
import java.io.UncheckedIOException;
import java.nio.charset.StandardCharsets;
import java.nio.file.Files;
import java.nio.file.Path;
import java.util.Comparator;
import java.util.stream.Stream;

/** The script .ci/run, in small projects of its own: what it counts, what its last line is, and when it fails. */
public final class CiTest {
    private static final String CLASS = "public final class ShopPaymaster {}";
    private static final String NO_JAVA = "public final class {";
    private static final String TWO_PASS = "System.out.println(\"2 passed, 0 failed\");";
    private static final String ONE_FAILS = "System.out.println(\"1 passed, 1 failed\"); System.exit(1);";
    private static final String SILENT = "";
    private static final String EXIT_1 = "System.exit(1);";
    private static final String THROWS = "throw new IllegalStateException();";

    private final Path root;

    private CiTest() throws IOException {
        root = Files.createTempDirectory("ci-test");
    }

    public static void main(String[] args) {
        Tests.test("all pass", () -> ends(CLASS, main("OwnTest", TWO_PASS), main("Shared", SILENT), 0, 3, 0));
        Tests.test("a test under ../shared/tests fails",
                () -> ends(CLASS, main("OwnTest", TWO_PASS), main("Shared", EXIT_1), 1, 2, 1));
        Tests.test("a test of the project fails",
                () -> ends(CLASS, main("OwnTest", ONE_FAILS), main("Shared", SILENT), 1, 2, 1));
        Tests.test("a test throws", () -> ends(CLASS, main("OwnTest", THROWS), main("Shared", SILENT), 1, 1, 1));
        Tests.test("the class does not compile",
                () -> ends(NO_JAVA, main("OwnTest", TWO_PASS), main("Shared", SILENT), 1, 0, 1));
        Tests.test("the tests of the project do not compile",
                () -> ends(CLASS, NO_JAVA, main("Shared", SILENT), 1, 1, 1));
        Tests.test("a test under ../shared/tests does not compile",
                () -> ends(CLASS, main("OwnTest", TWO_PASS), NO_JAVA, 1, 2, 1));
        Tests.test("there is no test under ../shared/tests",
                () -> ends(CLASS, main("OwnTest", TWO_PASS), null, 1, 2, 1));
        Tests.end();
    }

    private static String main(String name, String body) {
        return "public final class " + name + " { public static void main(String[] args) { " + body + " } }";
    }

    private static void ends(String own, String ownTest, String shared, int code, int passed, int failed) {
        try {
            CiTest project = new CiTest();
            try {
                project.lay(own, ownTest, shared);
                project.run(code, passed + " passed, " + failed + " failed");
            } finally {
                project.remove();
            }
        } catch (IOException e) {
            throw new UncheckedIOException(e);
        }
    }

    private void lay(String own, String ownTest, String shared) throws IOException {
        write("main/.ci/run", Files.readString(Path.of(".ci/run")));
        write("main/src/main/java/ShopPaymaster.java", own);
        write("main/src/test/java/OwnTest.java", ownTest);
        if (shared != null) {
            write("shared/tests/Shared.java", shared);
        }
    }

    private void write(String name, String text) throws IOException {
        Path file = root.resolve(name);
        Files.createDirectories(file.getParent());
        Files.writeString(file, text);
    }

    private void run(int code, String lastLine) throws IOException {
        // Begun from elsewhere, as the script must find its project by itself.
        Process script = new ProcessBuilder("sh", root.resolve("main/.ci/run").toString())
                .directory(root.toFile()).redirectErrorStream(true).start();
        String text = new String(script.getInputStream().readAllBytes(), StandardCharsets.UTF_8);
        String[] lines = text.split("\n");
        Tests.due("the last line", lines[lines.length - 1], lastLine);
        try {
            Tests.due("the exit code", script.waitFor(), code);
        } catch (InterruptedException e) {
            throw new IllegalStateException(e);
        }
    }

    private void remove() throws IOException {
        try (Stream<Path> files = Files.walk(root)) {
            files.sorted(Comparator.reverseOrder()).map(Path::toFile).forEach(File::delete);
        }
    }
}
