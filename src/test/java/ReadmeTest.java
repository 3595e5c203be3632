import java.io.IOException;
import java.lang.reflect.Method;
import java.nio.file.Files;
import java.nio.file.Path;
import java.util.ArrayList;
import java.util.List;
import java.util.regex.Matcher;
import java.util.regex.Pattern;

/** README.md says how to use the class: its examples answer as it says, and it tells of each call and each test. */
public final class ReadmeTest {
    private static final Path README = Path.of("README.md");
    private static final Path TESTS = Path.of("src", "test", "java");
    private static final Pattern READS = Pattern.compile("letter : \"([^\"]*)\"\\.toCharArray");
    private static final Pattern ASKS = Pattern.compile("x\\.(\\w+)\\(([-\\d, ]*)\\);\\s*// (-?\\d+)");
    private static final int FEWEST_EXAMPLES = 12;

    private static final List<String> WRONG = new ArrayList<>();

    private ReadmeTest() {
    }

    public static void main(String[] args) throws IOException {
        String text = Files.readString(README);
        int examples = examples(text);
        if (examples < FEWEST_EXAMPLES) {
            WRONG.add("only " + examples + " examples were found");
        }
        tellsOfCalls(text);
        tellsOfTests(text);
        WRONG.addAll(Run.end());
        WRONG.forEach(System.out::println);
        System.out.println(examples + " examples, " + WRONG.size() + " things not as due");
        if (!WRONG.isEmpty()) {
            System.exit(1);
        }
    }

    private static int examples(String text) {
        int found = 0;
        Run run = Run.fresh();
        for (String line : text.split("\n")) {
            Matcher reads = READS.matcher(line);
            if (reads.find()) {
                run = Run.page(reads.group(1));
            }
            Matcher asks = ASKS.matcher(line);
            if (asks.find()) {
                found++;
                run.due(Long.parseLong(asks.group(3)), asks.group(1), numbers(asks.group(2)));
            }
        }
        return found;
    }

    private static int[] numbers(String text) {
        return text.isBlank() ? new int[0] : Pattern.compile(",").splitAsStream(text).map(String::trim)
            .mapToInt(Integer::parseInt).toArray();
    }

    private static void tellsOfCalls(String text) {
        for (Method method : NumberPile.class.getMethods()) {
            boolean isFace = method.getDeclaringClass() == NumberPile.class;
            if (isFace && !text.contains("`" + method.getName() + "(")) {
                WRONG.add("nothing is said of " + method.getName() + "()");
            }
        }
    }

    private static void tellsOfTests(String text) throws IOException {
        try (var files = Files.list(TESTS)) {
            for (Path file : files.toList()) {
                String name = file.getFileName().toString().replace(".java", "");
                if (!text.contains("`" + name + "`")) {
                    WRONG.add("nothing is said of " + name);
                }
            }
        }
    }
}
