import java.io.IOException;
import java.nio.file.Path;
import java.util.ArrayList;
import java.util.List;

/**
 * The command that README.md names for the tests: it runs all of them, and fails if one fails. It is run in
 * checkouts whose tests bear the names of the true ones, but only write down that they were run.
 */
public final class CommandTest {
    private static final Path RAN = Path.of("ran.txt");
    private static final Checks CHECKS = new Checks();

    private final String command;
    private final List<String> shared;
    private final List<String> own;

    private CommandTest() throws IOException {
        command = Readme.block(Readme.TESTS, "sh");
        shared = Checkout.programs(Checkout.SHARED_TESTS);
        own = Checkout.programs(Checkout.TESTS);
    }

    private static String stub(String name, int exitCode) {
        return "import java.io.IOException;\nimport java.nio.file.Files;\nimport java.nio.file.Path;\n"
            + "import java.nio.file.StandardOpenOption;\n"
            + "public final class " + name + " {\n"
            + "    public static void main(String[] args) throws IOException {\n"
            + "        Files.writeString(Path.of(\"" + RAN + "\"), \"" + name + "\\n\", StandardOpenOption.CREATE, StandardOpenOption.APPEND);\n"
            + "        new QuarrelWays();\n"
            + "        System.exit(" + exitCode + ");\n"
            + "    }\n"
            + "}\n";
    }

    private static Path fileOf(Path directory, String name) {
        return directory.resolve(name + ".java");
    }

    /** A checkout with all tests, of which one fails; none if there is none of that name. */
    private Checkout checkout(String name, String failing) throws IOException {
        Checkout checkout = new Checkout(name).copy(Checkout.SCRIPT).copy(Checkout.CLASS);
        for (String test : shared) {
            checkout.write(fileOf(Checkout.SHARED_TESTS, test), stub(test, test.equals(failing) ? 1 : 0));
        }
        for (String test : own) {
            checkout.write(fileOf(Checkout.TESTS, test), stub(test, test.equals(failing) ? 1 : 0));
        }
        return checkout;
    }

    private void ranAll(Checkout checkout) throws IOException {
        List<String> ran = new ArrayList<>(checkout.lines(RAN));
        List<String> due = new ArrayList<>(shared);
        due.addAll(own);
        ran.sort(null);
        due.sort(null);
        CHECKS.holds("the tests that ran are " + ran + ", due are " + due, ran.equals(due));
    }

    private void passes() throws IOException, InterruptedException {
        CHECKS.of("all tests pass");
        Checkout checkout = checkout("pass", "");
        CHECKS.due("the exit code", checkout.run(command), 0);
        ranAll(checkout);
    }

    private void fails(String failing) throws IOException, InterruptedException {
        CHECKS.of(failing + " fails");
        Checkout checkout = checkout("fail-" + failing, failing);
        CHECKS.holds("the command fails", checkout.run(command) != 0);
        CHECKS.holds("it names the test", checkout.output().contains("FAILED: " + failing));
        ranAll(checkout);
    }

    private void doesNotCompile(String name, Path file, String text) throws IOException, InterruptedException {
        CHECKS.of(name + " does not compile");
        Checkout checkout = checkout("broken-" + name, "").write(file, text);
        CHECKS.holds("the command fails", checkout.run(command) != 0);
        CHECKS.holds("the compiler says why: " + checkout.output(), checkout.output().contains("error"));
    }

    private void hasNoSharedTests() throws IOException, InterruptedException {
        CHECKS.of("no shared tests");
        Checkout checkout = new Checkout("alone").copy(Checkout.SCRIPT).copy(Checkout.CLASS)
            .write(fileOf(Checkout.TESTS, "FaceTest"), stub("FaceTest", 0));
        CHECKS.holds("the command fails", checkout.run(command) != 0);
    }

    private void all() throws IOException, InterruptedException {
        CHECKS.of("tests");
        CHECKS.holds("the page names a command", !command.isEmpty());
        CHECKS.holds("there are shared tests", !shared.isEmpty());
        CHECKS.holds("there are tests of the project", own.contains("CommandTest") && own.contains("WaysOutTest"));
        passes();
        for (String test : shared) {
            fails(test);
        }
        fails(own.get(0));
        fails(own.get(own.size() - 1));
        doesNotCompile("the class", Checkout.CLASS, "public final class QuarrelWays {\n    int fault() { }\n}\n");
        doesNotCompile("a shared test", fileOf(Checkout.SHARED_TESTS, "Broken"), "public final class Broken { int x() { } }\n");
        doesNotCompile("a test", fileOf(Checkout.TESTS, "BrokenTest"), "public final class BrokenTest { int x() { } }\n");
        hasNoSharedTests();
    }

    public static void main(String[] args) throws IOException, InterruptedException {
        new CommandTest().all();
        CHECKS.end();
    }
}
