import java.io.IOException;
import java.nio.charset.StandardCharsets;
import java.nio.file.Files;
import java.nio.file.Path;
import java.nio.file.StandardCopyOption;
import java.util.ArrayList;
import java.util.Comparator;
import java.util.List;
import java.util.regex.Pattern;
import java.util.stream.Stream;

/** A small checkout of its own, with ../shared beside it, in which a test can run a command of README.md. */
final class Checkout {
    static final Path CLASS = Path.of("src/main/java/QuarrelWays.java");
    static final Path SCRIPT = Path.of(".ci/run");
    static final Path TESTS = Path.of("src/test/java");
    static final Path SHARED_TESTS = Path.of("../shared/tests");

    private static final Pattern MAIN = Pattern.compile("^ *public static void main\\(", Pattern.MULTILINE);

    private final Path root;
    private String output = "";

    /** Nothing is left of an earlier one of that name. */
    Checkout(String name) throws IOException {
        Path whole = Path.of("build/checkouts", name);
        remove(whole);
        root = whole.resolve("main");
        Files.createDirectories(root);
    }

    private static void remove(Path whole) throws IOException {
        if (!Files.exists(whole)) {
            return;
        }
        try (Stream<Path> files = Files.walk(whole)) {
            for (Path file : files.sorted(Comparator.reverseOrder()).toList()) {
                Files.delete(file);
            }
        }
    }

    Checkout copy(Path file) throws IOException {
        Path target = root.resolve(file);
        Files.createDirectories(target.getParent());
        Files.copy(file, target, StandardCopyOption.REPLACE_EXISTING, StandardCopyOption.COPY_ATTRIBUTES);
        return this;
    }

    Checkout write(Path file, String text) throws IOException {
        Path target = root.resolve(file);
        Files.createDirectories(target.getParent());
        Files.writeString(target, text);
        return this;
    }

    /** The lines of a file; none if there is no such file. */
    List<String> lines(Path file) throws IOException {
        Path source = root.resolve(file);
        return Files.exists(source) ? Files.readAllLines(source) : List.of();
    }

    /** Runs a command as a reader of README.md would, and returns its exit code. */
    int run(String command) throws IOException, InterruptedException {
        Process process = new ProcessBuilder("sh", "-e", "-c", command).directory(root.toFile()).redirectErrorStream(true).start();
        process.getOutputStream().close();
        output = new String(process.getInputStream().readAllBytes(), StandardCharsets.UTF_8);
        return process.waitFor();
    }

    /** What the last command printed. */
    String output() {
        return output;
    }

    /** The names of the files in a directory that have a main method. */
    static List<String> programs(Path directory) throws IOException {
        List<String> names = new ArrayList<>();
        try (Stream<Path> files = Files.list(directory)) {
            for (Path file : files.sorted().toList()) {
                String name = file.getFileName().toString();
                if (name.endsWith(".java") && MAIN.matcher(Files.readString(file)).find()) {
                    names.add(name.substring(0, name.length() - ".java".length()));
                }
            }
        }
        return names;
    }
}
