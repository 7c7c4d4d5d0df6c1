import java.io.IOException;
import java.nio.file.Files;
import java.nio.file.Path;
import java.util.ArrayList;
import java.util.List;

/** What stands in README.md: its blocks of code, and its tables. */
final class Readme {
    static final String USE = "How to use it", TESTS = "How to run its tests";

    private Readme() {
    }

    private static List<String> lines() throws IOException {
        return Files.readAllLines(Path.of("README.md"));
    }

    /** The lines below a heading, up to the next one. */
    private static List<String> section(String heading) throws IOException {
        List<String> section = new ArrayList<>();
        boolean inside = false;
        for (String line : lines()) {
            inside = line.startsWith("## ") ? line.equals("## " + heading) : inside;
            if (inside) {
                section.add(line);
            }
        }
        return section;
    }

    /** The only block of a language below a heading; empty if there is none, or more than one. */
    static String block(String heading, String language) throws IOException {
        StringBuilder block = new StringBuilder();
        int blocks = 0;
        boolean inside = false;
        for (String line : section(heading)) {
            if (line.startsWith("```")) {
                inside = line.equals("```" + language);
                blocks += inside ? 1 : 0;
            } else if (inside) {
                block.append(line).append('\n');
            }
        }
        return blocks == 1 ? block.toString() : "";
    }

    /** The first cells of the table below a heading, without the table's head. */
    static List<String> table(String heading) throws IOException {
        List<String> cells = new ArrayList<>();
        for (String line : section(heading)) {
            if (line.startsWith("| ")) {
                cells.add(line.substring(2, line.indexOf(" |", 2)).replace("`", ""));
            }
        }
        return cells.subList(Math.min(2, cells.size()), cells.size());
    }
}
