import java.io.IOException;
import java.io.UncheckedIOException;
import java.nio.file.Files;
import java.nio.file.Path;
import java.util.HashMap;
import java.util.Map;
import java.util.regex.Matcher;
import java.util.regex.Pattern;

/** The document, by its parts: "Term 1" .. "Term 8", "Throws" (the paragraph behind them), "Promise 1" .. . */
final class Document {
    private static final Map<String, String> PARTS = parts();

    private Document() {
    }

    /** Whether a part has these words; how its lines are broken doesn't matter. */
    static boolean says(String part, String words) {
        return PARTS.containsKey(part) && PARTS.get(part).contains(words);
    }

    static String part(String name) {
        return PARTS.getOrDefault(name, "");
    }

    static int promises() {
        int many = 0;
        while (PARTS.containsKey("Promise " + (many + 1))) {
            many++;
        }
        return many;
    }

    private static Map<String, String> parts() {
        Map<String, String> parts = new HashMap<>();
        String part = "";
        for (String line : text().split("\n")) {
            part = begun(line, part);
            parts.merge(part, line.strip(), (a, b) -> (a + " " + b).strip());
        }
        return parts;
    }

    private static String begun(String line, String before) {
        Matcher promise = Pattern.compile("## (Promise \\d+): .*").matcher(line);
        if (promise.matches()) {
            return promise.group(1);
        }
        Matcher term = Pattern.compile("(\\d)\\. .*").matcher(line);
        if (term.matches()) {
            return "Term " + term.group(1);
        }
        if (line.startsWith("IndexOutOfBoundsException: no such BIRTH")) {
            return "Throws";
        }
        return line.startsWith("Ahead of the calls") || line.startsWith("## ") ? "" : before;
    }

    private static String text() {
        try {
            return Files.readString(Path.of("..", "shared", "DOC.md"));
        } catch (IOException e) {
            throw new UncheckedIOException(e);
        }
    }
}
