import java.io.IOException;
import java.nio.file.Files;
import java.nio.file.Path;
import java.util.LinkedHashMap;
import java.util.Map;
import java.util.regex.Matcher;
import java.util.regex.Pattern;

/** What can be read of LANGUAGE.md's rules in the text of the class. */
public final class LanguageTest {
    private static final String[] BARRED = {"throw", "throws", "try", "catch", "finally", "synchronized", "assert", "import",
        "package", "native", "volatile", "transient", "float", "double", "record", "sealed", "var", "yield", "Object",
        "Exception", "Error", "Thread", "Runtime", "Random", "HashMap", "Map", "Set", "Class"};
    private static final Pattern METHOD = Pattern.compile("^( {4}| {8})(?:public |private )(?:static )?(?:[\\w\\[\\]]+ )?(\\w+)\\([^)]*\\) \\{$");
    private static final Checks CHECKS = new Checks();

    private static String withoutCommentsAndTexts(String source) {
        return source.replaceAll("(?s)/\\*.*?\\*/", "").replaceAll("//[^\n]*", "").replaceAll("\"[^\"\n]*\"", "\"\"")
            .replaceAll("'[^'\n]'", "' '");
    }

    private static void words(String code) {
        CHECKS.of("rules 3 to 6 and 13");
        for (String word : BARRED) {
            boolean isMethod = word.equals("record");
            boolean there = Pattern.compile("\\b" + word + "\\b" + (isMethod ? "\\s+\\w" : "")).matcher(code).find();
            CHECKS.holds("no word '" + word + "'", !there);
        }
        CHECKS.holds("no lambda, no arrow", !code.contains("->"));
        CHECKS.holds("no method reference", !code.contains("::"));
        CHECKS.holds("no function that throws", !code.contains("Exact"));
        CHECKS.holds("no static block", !Pattern.compile("static\\s*\\{").matcher(code).find());
        Matcher system = Pattern.compile("\\b(System|Math|Integer|Long|Arrays)\\.(\\w+)").matcher(code);
        while (system.find()) {
            boolean listed = system.group().matches("System\\.arraycopy|Math\\.(max|min|floorMod)|Integer\\.bitCount");
            CHECKS.holds(system.group() + " is listed", listed);
        }
    }

    /** The body of each method by its name, comments and texts left out. */
    private static Map<String, String> methods(String code) {
        Map<String, String> bodies = new LinkedHashMap<>();
        String name = null;
        String indent = "";
        StringBuilder body = new StringBuilder();
        int lines = 0;
        for (String line : code.split("\n")) {
            Matcher head = METHOD.matcher(line);
            if (name == null && head.matches()) {
                name = head.group(2);
                indent = head.group(1);
                body.setLength(0);
                lines = 0;
            } else if (name != null && line.equals(indent + "}")) {
                CHECKS.holds(name + " has at most sixty lines", lines <= 60);
                CHECKS.holds(name + " is the only one of its name", bodies.put(name, body.toString()) == null);
                name = null;
            } else if (name != null) {
                body.append(line).append('\n');
                lines++;
            }
        }
        return bodies;
    }

    /** How many calls stand open at once at the most, this one counted; more than 50 for a recursion. */
    private static int depth(String name, Map<String, String> bodies, int above) {
        int deepest = 0;
        Matcher call = Pattern.compile("\\b(\\w+)\\(").matcher(bodies.get(name));
        while (above < 50 && call.find()) {
            if (bodies.containsKey(call.group(1))) {
                deepest = Math.max(deepest, depth(call.group(1), bodies, above + 1));
            }
        }
        return above < 50 ? deepest + 1 : 100;
    }

    public static void main(String[] args) throws IOException {
        String source = Files.readString(Path.of("src/main/java/QuarrelWays.java"));
        CHECKS.of("rule 3");
        CHECKS.holds("signs are 1 to 127", source.chars().allMatch(sign -> sign >= 1 && sign <= 127));
        String code = withoutCommentsAndTexts(source);
        words(code);
        CHECKS.of("rules 8 and 11");
        Map<String, String> bodies = methods(code);
        CHECKS.holds("the methods are found", bodies.size() > 80 && bodies.containsKey("carryOut") && bodies.containsKey("isDigit"));
        for (String name : bodies.keySet()) {
            int depth = depth(name, bodies, 0);
            CHECKS.holds(name + " goes at most eight deep, not " + depth, depth <= 8);
        }
        CHECKS.end();
    }
}
