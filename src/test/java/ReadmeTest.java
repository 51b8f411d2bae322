import java.io.IOException;
import java.nio.file.Files;
import java.nio.file.Path;
import java.util.List;
import java.util.Set;
import java.util.TreeSet;
import java.util.regex.Matcher;
import java.util.regex.Pattern;
import java.util.stream.Stream;

/** The examples of README.md: one run, in which each call of the face must answer what stands behind it. */
public final class ReadmeTest {
    private static final Path README = Path.of("README.md");
    private static final Path TESTS = Path.of("src/test/java");
    private static final Pattern EXAMPLE = Pattern.compile("parlour\\.(\\w+\\(.*?\\)); +// ('.'|[^:]+)(: .*)?");

    private ReadmeTest() {
    }

    public static void main(String[] args) throws IOException {
        List<String> lines = Files.readAllLines(README);
        examplesAnswerSo(lines);
        testsAreNamed(String.join(" ", lines));
        Check.finish();
    }

    private static void examplesAnswerSo(List<String> lines) {
        Set<String> shown = new TreeSet<>();
        Calls calls = new Calls();
        for (String line : lines) {
            Matcher example = EXAMPLE.matcher(line);
            if (example.matches()) {
                shown.add(Calls.nameOf(example.group(1)));
                Check.same(example.group(1), told(calls.make(example.group(1))), example.group(2));
            } else {
                Check.holds("an example that is played: " + line, !line.startsWith("parlour."));
            }
        }
        Set<String> due = new TreeSet<>();
        Stream.of(PersistentParlour.class.getMethods()).filter(method -> method.getDeclaringClass() == PersistentParlour.class)
                .forEach(method -> due.add(method.getName()));
        Check.same("calls that are shown", shown, due);
    }

    private static String told(Object answer) {
        if (answer instanceof Class) {
            return "throws " + ((Class<?>) answer).getSimpleName();
        }
        return answer instanceof Character ? "'" + answer + "'" : answer.toString();
    }

    private static void testsAreNamed(String text) throws IOException {
        try (Stream<Path> files = Files.list(TESTS)) {
            for (Path file : files.toList()) {
                String name = file.getFileName().toString().replace(".java", "");
                boolean isTest = name.endsWith("Test") || name.endsWith("Boundaries");
                Check.holds("README.md names " + name, !isTest || text.contains("`" + name + "`"));
            }
        }
    }
}
