import java.io.IOException;
import java.nio.file.Files;
import java.nio.file.Path;
import java.util.List;
import java.util.stream.Collectors;
import java.util.stream.Stream;

/** What README.md tells: the answers of its examples, and the tests that there are. */
public final class ReadmeTest {
    private static final Path README = Path.of("README.md");
    private static final Path TESTS = Path.of("src/test/java");

    private ReadmeTest() {
    }

    public static void main(String[] args) throws IOException {
        String readme = Files.readString(README);
        examples(readme);
        everyTestIsNamed(readme);
        Due.end();
    }

    private static void examples(String readme) {
        DriftGrinders grinder = new DriftGrinders();
        dueOf(readme, "grinder.fill(0, 500);", 500, grinder.fill(0, 500));
        dueOf(readme, "grinder.grind(0, 180);", 140, grinder.grind(0, 180));
        Due.due("README: the chute", 40, grinder.count(6));
        dueOf(readme, "int time = grinder.shot();", 300, grinder.shot());
        dueOf(readme, "grinder.correct(0);", 32, grinder.correct(0));
        dueOf(readme, "grinder.undo();", 3, grinder.undo());
        dueTold(readme, "\"f0,300;g0,150;s;w20;\"");
        Due.write(grinder, "f0,300;g0,150;s;w20;");
        dueTold(readme, "grinder.fault(0);");
        Due.due("README: fault(0)", Due.NOT_FOUND, grinder.fault(0));
        dueOf(readme, "grinder.play();", 4, grinder.play());
    }

    /** The answer stands in the comment behind the call. */
    private static void dueOf(String readme, String call, int want, int got) {
        Due.due("README: " + call, want, got);
        List<String> lines = readme.lines().filter(line -> line.contains(call)).collect(Collectors.toList());
        Due.due("README: lines with " + call, 1, lines.size());
        for (String line : lines) {
            boolean told = line.matches(".*//.*\\b" + want + "\\b.*");
            Due.due("README: the answer of " + call, 1, told ? 1 : 0);
        }
    }

    private static void dueTold(String readme, String part) {
        Due.due("README: " + part, 1, readme.contains(part) ? 1 : 0);
    }

    private static void everyTestIsNamed(String readme) throws IOException {
        List<String> names;
        try (Stream<Path> files = Files.list(TESTS)) {
            names = files.map(file -> file.getFileName().toString().replace(".java", ""))
                    .sorted().collect(Collectors.toList());
        }
        for (String name : names) {
            dueTold(readme, "`" + name + "`");
        }
        long rows = readme.lines().filter(line -> line.matches("\\| `\\w+Test` \\|.*")).count();
        Due.due("README: rows of tests", names.stream().filter(name -> name.endsWith("Test")).count(), rows);
    }
}
