import java.io.IOException;
import java.io.UncheckedIOException;
import java.nio.file.Files;
import java.nio.file.Path;
import java.util.Map;
import java.util.TreeMap;

/** The document, by its headings ("Terms", "Promise 7"). */
final class Doc {
    private static final Path PLACE = Path.of("..", "shared", "DOC.md");

    private Doc() {
    }

    static Map<String, String> sections() {
        Map<String, String> sections = new TreeMap<>();
        for (String part : text().split("(?m)^## ")) {
            int end = part.indexOf('\n');
            if (end > 0) {
                sections.put(part.substring(0, end).split(":")[0].trim(), part.substring(end + 1));
            }
        }
        return sections;
    }

    private static String text() {
        try {
            return Files.readString(PLACE);
        } catch (IOException e) {
            throw new UncheckedIOException(e);
        }
    }
}
