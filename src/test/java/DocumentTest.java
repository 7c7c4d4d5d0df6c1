import java.io.IOException;
import java.nio.file.Files;
import java.nio.file.Path;
import java.util.ArrayList;
import java.util.List;

/** Each section of ../shared/DOC.md is named by a test, which then answers for its sentences. */
public final class DocumentTest {
    /** The title, and a section that says what nothing is due of. */
    private static final List<String> WITHOUT_TEST = List.of("QuarrelWays", "Not promised");
    private static final Checks CHECKS = new Checks();

    private static String allTests() throws IOException {
        StringBuilder all = new StringBuilder();
        for (String name : Checkout.programs(Checkout.TESTS)) {
            if (!name.equals("DocumentTest")) {
                all.append(Files.readString(Checkout.TESTS.resolve(name + ".java")));
            }
        }
        return all.toString();
    }

    public static void main(String[] args) throws IOException {
        CHECKS.of("the document's sections");
        List<String> headings = new ArrayList<>();
        for (String line : Files.readAllLines(Path.of("../shared/DOC.md"))) {
            if (line.startsWith("#")) {
                headings.add(line.replaceFirst("#+ ", ""));
            }
        }
        CHECKS.holds("the title stands first", headings.indexOf("QuarrelWays") == 0);
        String tests = allTests();
        int promises = 0;
        for (String heading : headings) {
            promises += heading.startsWith("Promise ") ? 1 : 0;
            CHECKS.holds("a test names '" + heading + "'", WITHOUT_TEST.contains(heading) || tests.contains('"' + heading + '"'));
        }
        CHECKS.due("promises", promises, 29);
        CHECKS.end();
    }
}
