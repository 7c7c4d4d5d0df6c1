import java.io.IOException;
import java.io.UncheckedIOException;
import java.nio.file.Files;
import java.nio.file.Path;
import java.util.ArrayList;
import java.util.LinkedHashMap;
import java.util.List;
import java.util.Map;

/**
 * The tests' answers, each under the sentence of ../shared/DOC.md that it belongs to. A test is named by the
 * words of its sentence, which have to stand in the document; and of the sections that a test class takes on,
 * no sentence may be left without a test.
 */
final class Sentences extends Checks {
    /** The calls that lead to a state. */
    interface Start {
        void on(Ways ways);
    }

    interface Call {
        int on(Ways ways);
    }

    /** A part of a line that ends with a full stop, a semicolon, a colon, or the line. */
    private static final class Sentence {
        final String line;
        final int from;
        final int to;
        boolean tested = false;

        Sentence(String line, int from, int to) {
            this.line = line;
            this.from = from;
            this.to = to;
        }

        String text() {
            return line.substring(from, to);
        }

        /** The names of what is promised, and headings, say nothing that a test could hold. */
        boolean isName() {
            String text = text();
            return text.startsWith("`") || text.startsWith("- `") || line.startsWith("Ahead of the calls")
                || text.equals("Persons, quarrels") || text.equals("Settling, fighting");
        }
    }

    private static final Path DOCUMENT = Path.of("../shared/DOC.md");

    private final Map<String, List<Sentence>> sections = read();
    private final String[] taken;
    private int tests = 0;
    /** How many answers there were when the last test had begun. */
    private int begun = -1;

    Sentences(String... taken) {
        this.taken = taken;
    }

    /** The sentences of each section, by its heading. */
    private static Map<String, List<Sentence>> read() {
        Map<String, List<Sentence>> sections = new LinkedHashMap<>();
        List<Sentence> section = new ArrayList<>();
        try {
            for (String line : Files.readAllLines(DOCUMENT)) {
                if (line.startsWith("#")) {
                    section = new ArrayList<>();
                    sections.put(line.replaceFirst("#+ ", ""), section);
                } else if (!line.isBlank() && !line.startsWith("```")) {
                    cut(line.trim(), section);
                }
            }
        } catch (IOException e) {
            throw new UncheckedIOException(e);
        }
        return sections;
    }

    private static void cut(String line, List<Sentence> section) {
        int from = 0;
        for (String text : line.split("(?<=[.;:]) ")) {
            section.add(new Sentence(line, from, from + text.length()));
            from += text.length() + 1;
        }
    }

    /** Begins the test of a sentence, of a part of one, or of some that stand one behind the other. */
    void of(String section, String words) {
        endTest();
        of(section + ", '" + words + "'");
        tests++;
        boolean stands = false;
        for (Sentence sentence : sections.getOrDefault(section, List.of())) {
            int at = sentence.line.indexOf(words);
            stands |= at >= 0;
            sentence.tested |= at >= 0 && at < sentence.to && at + words.length() > sentence.from;
        }
        holds("it stands in the document", stands);
        begun = answers();
    }

    private void endTest() {
        if (begun == answers()) {
            holds("the test has an answer", false);
        }
    }

    /** A call answers so, and nothing at all is changed by it: a call that is refused, or a question. */
    void keeps(Start start, String name, Call call, int answer) {
        Ways ways = new Ways();
        start.on(ways);
        due(name, call.on(ways), answer);
        for (int look = 0; look < Looks.NUMBER; look++) {
            holds(name + " changes nothing, look " + look, Looks.behind(start, call, look).equals(Looks.behind(start, x -> 0, look)));
        }
    }

    /** A call is a change: it puts the state before it into the history, whence undo() brings it back. */
    void records(Start start, String name, Call call) {
        Ways before = new Ways();
        start.on(before);
        Ways ways = new Ways();
        start.on(ways);
        int undoable = ways.count(14);
        int answer = call.on(ways);
        int pad = ways.count(13);
        holds(name + " answered " + answer + ", no error", answer >= 0 || answer == -6);
        due(name + ": count(14)", ways.count(14), Math.min(6, undoable + 1));
        due(name + ": undo()", ways.undo(), Math.min(5, undoable));
        holds(name + " is undone", Looks.town(before).equals(Looks.town(ways)));
        due(name + ": undo() leaves the pad, count(13)", ways.count(13), pad);
        for (int slot = 0; slot < 2; slot++) {
            holds(name + " leaves slot " + slot, Looks.slot(start, call, slot).equals(Looks.slot(start, x -> 0, slot)));
        }
    }

    @Override
    void end() {
        endTest();
        for (String section : taken) {
            of(section);
            List<Sentence> sentences = sections.getOrDefault(section, List.of());
            holds("the section stands in the document", !sentences.isEmpty());
            for (Sentence sentence : sentences) {
                holds("'" + sentence.text() + "' has a test", sentence.tested || sentence.isName());
            }
        }
        System.out.print(tests + " sentences, ");
        super.end();
    }
}
