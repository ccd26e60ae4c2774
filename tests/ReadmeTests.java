import java.io.IOException;
import java.lang.reflect.Modifier;
import java.nio.file.Files;
import java.nio.file.Path;
import java.util.ArrayList;
import java.util.Arrays;
import java.util.List;
import java.util.regex.Matcher;
import java.util.regex.Pattern;
import java.util.stream.Stream;

/** README.md says what is so: its example answers as it says, and it names each call and each test. */
public final class ReadmeTests {
    private static final Path PAGE = Path.of("README.md");
    private static final String FIRST = "LedgerStream ledger = new LedgerStream();";
    private static final Pattern CALL = Pattern.compile("ledger\\.(\\w+\\([^()]*\\)); +// (throws )?([^:]+)(: .*)?");

    private ReadmeTests() {
    }

    public static void main(String[] args) throws IOException {
        String page = Files.readString(PAGE);
        List<String> faults = new ArrayList<>();
        example(page.split("```java\n")[1].split("```")[0], faults);
        calls(page, faults);
        tests(page, faults);
        Run.end(faults);
    }

    private static void example(String code, List<String> faults) {
        List<String> lines = code.lines().filter(line -> !line.isBlank()).toList();
        if (!lines.get(0).equals(FIRST)) {
            faults.add("a new ledger in the first line of the example");
        }
        Run run = new Run();
        for (String line : lines.subList(1, lines.size())) {
            Matcher call = CALL.matcher(line);
            if (!call.matches()) {
                faults.add("a call and its answer in: " + line);
            } else if (call.group(2) != null) {
                run.refuses(call.group(1), call.group(3));
            } else {
                run.is(call.group(1), call.group(3));
            }
        }
    }

    private static void calls(String page, List<String> faults) {
        Arrays.stream(LedgerStream.class.getDeclaredMethods())
            .filter(method -> Modifier.isPublic(method.getModifiers()))
            .map(method -> "`" + method.getName() + "`").filter(name -> !page.contains(name)).forEach(faults::add);
    }

    private static void tests(String page, List<String> faults) throws IOException {
        try (Stream<Path> files = Files.list(Path.of("tests"))) {
            files.filter(file -> file.toString().endsWith(".java"))
                .map(file -> "`tests/" + file.getFileName() + "`").filter(name -> !page.contains(name))
                .forEach(faults::add);
        }
    }
}
