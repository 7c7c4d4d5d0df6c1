import java.io.IOException;
import java.nio.file.Files;
import java.nio.file.Path;
import java.util.ArrayList;
import java.util.List;
import java.util.regex.Matcher;
import java.util.regex.Pattern;

/** README.md: its example compiles against the class and answers what stands beside it, and its lists are whole. */
public final class ReadmeTest {
    private static final Path EXAMPLE = Path.of("Example.java");
    /** A call on a line of its own, with what it answers: "int x = ways.call(..);  // 3: words". */
    private static final Pattern CALL = Pattern.compile("^\\s*(?:int \\w+ = )?(ways\\.(\\w+)\\(.*\\)); +// (-?\\w+)(?:: .*)?$");
    private static final Checks CHECKS = new Checks();

    /** What an answer of the page is as a number; null if it is neither a number nor a constant of the class. */
    private static Integer numberOf(String answer) {
        try {
            return answer.matches("-?\\d+") ? Integer.valueOf(answer) : (Integer) QuarrelWays.class.getField(answer).get(null);
        } catch (ReflectiveOperationException e) {
            return null;
        }
    }

    private static Checkout checkout(String name, String example) throws IOException {
        return new Checkout(name).copy(Checkout.CLASS).write(EXAMPLE, example);
    }

    /** The example as it stands, by the commands that stand below it. */
    private static void asItStands(String example, String commands) throws IOException, InterruptedException {
        CHECKS.of("the example as it stands");
        Checkout checkout = checkout("example", example);
        CHECKS.due("the exit code of '" + commands + "'", checkout.run(commands), 0);
        String printed = Readme.block(Readme.USE, "text");
        CHECKS.holds("the page tells what it prints", !printed.isEmpty());
        CHECKS.holds("it prints " + checkout.output(), checkout.output().equals(printed));
    }

    /** The example with each call's answer printed behind it. */
    private static void answers(String example, String commands) throws IOException, InterruptedException {
        CHECKS.of("the example's answers");
        StringBuilder printing = new StringBuilder();
        List<String> calls = new ArrayList<>();
        List<Integer> due = new ArrayList<>();
        for (String line : example.split("\n")) {
            Matcher call = CALL.matcher(line);
            if (call.matches()) {
                int before = call.start(1);
                printing.append(line, 0, before).append("printed(").append(call.group(1)).append(");\n");
                calls.add(call.group(1));
                due.add(numberOf(call.group(3)));
            } else {
                CHECKS.holds("an answer stands beside " + line, !line.contains("ways.") || line.contains("println("));
                printing.append(line).append('\n');
            }
        }
        printing.insert(printing.lastIndexOf("}"),
            "    static int printed(int answer) {\n        System.out.println(answer);\n        return answer;\n    }\n");
        CHECKS.holds("the page shows some calls", calls.size() > 20);
        Checkout checkout = checkout("answers", printing.toString());
        CHECKS.due("the exit code of '" + commands + "'", checkout.run(commands), 0);
        String[] printed = checkout.output().split("\n");
        CHECKS.due("lines printed", printed.length, calls.size() + 1);
        for (int call = 0; call < calls.size() && call < printed.length; call++) {
            CHECKS.holds(calls.get(call) + " answered " + printed[call] + ", the page says " + due.get(call),
                printed[call].equals(String.valueOf(due.get(call))));
        }
    }

    /** The calls as the document's face lists them: without kinds, as the page does. */
    private static List<String> callsOfTheDocument() throws IOException {
        List<String> calls = new ArrayList<>();
        for (String line : Files.readAllLines(Path.of("../shared/DOC.md"))) {
            Matcher call = Pattern.compile("^    public int (\\w+\\(.*\\));$").matcher(line);
            if (call.matches()) {
                calls.add(call.group(1).replaceAll("\\b(int|long) ", ""));
            }
        }
        return calls;
    }

    private static void lists() throws IOException {
        CHECKS.of("the lists");
        CHECKS.holds("the calls are " + callsOfTheDocument(), Readme.table(Readme.USE).equals(callsOfTheDocument()));
        CHECKS.due("calls", callsOfTheDocument().size(), 28);
        List<String> listed = new ArrayList<>(Readme.table(Readme.TESTS));
        listed.sort(null);
        CHECKS.holds("the tests are " + Checkout.programs(Checkout.TESTS), listed.equals(Checkout.programs(Checkout.TESTS)));
    }

    public static void main(String[] args) throws IOException, InterruptedException {
        CHECKS.of("the blocks");
        String example = Readme.block(Readme.USE, "java");
        String commands = Readme.block(Readme.USE, "sh");
        CHECKS.holds("the page has one example", !example.isEmpty());
        CHECKS.holds("the page tells how to run it", !commands.isEmpty());
        asItStands(example, commands);
        answers(example, commands);
        lists();
        CHECKS.end();
    }
}
