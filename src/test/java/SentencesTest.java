import java.io.IOException;
import java.nio.file.Files;
import java.nio.file.Path;
import java.util.HashSet;
import java.util.List;
import java.util.Set;
import java.util.regex.Matcher;
import java.util.regex.Pattern;
import java.util.stream.Collectors;
import java.util.stream.Stream;

/** Every part of the document, and every sentence of a promise that names an exception, is what some test is about. */
public final class SentencesTest {
    private static final Check C = new Check();
    private static final Pattern ABOUT =
            Pattern.compile("C\\.about\\(\"([^\"]+)\",\\s*((?:\"(?:[^\"\\\\]|\\\\.)*\"[\\s+]*)+)\\)");
    private static final Pattern EXCEPTION = Pattern.compile("(\\w+Exception: [^`]*?[.])(?= \\w+Exception:| *$)");

    public static void main(String[] args) throws IOException {
        Set<String> parts = new HashSet<>();
        Set<String> words = new HashSet<>();
        for (Path file : tests()) {
            Matcher m = ABOUT.matcher(Files.readString(file));
            while (m.find()) {
                parts.add(m.group(1));
                words.add(m.group(1) + ": " + joined(m.group(2)));
            }
        }
        for (int k = 1; k <= 8; k++) {
            C.is("a test is about Term " + k, parts.contains("Term " + k), true);
        }
        C.is("a test is about what is thrown", parts.contains("Throws"), true);
        C.is("promises", Document.promises(), 61);
        for (int k = 1; k <= 61; k++) {
            String promise = "Promise " + k;
            C.is("a test is about " + promise, parts.contains(promise), true);
            Matcher m = EXCEPTION.matcher(Document.part(promise));
            while (m.find()) {
                C.is("a test is about " + promise + ": " + m.group(1), quoted(words, promise, m.group(1)), true);
            }
        }
        C.end();
    }

    private static List<Path> tests() throws IOException {
        try (Stream<Path> files = Files.list(Path.of("src", "test", "java"))) {
            return files.filter(f -> f.toString().endsWith("Test.java")).sorted().collect(Collectors.toList());
        }
    }

    private static String joined(String literals) {
        StringBuilder all = new StringBuilder();
        Matcher m = Pattern.compile("\"((?:[^\"\\\\]|\\\\.)*)\"").matcher(literals);
        while (m.find()) {
            all.append(m.group(1).replace("\\\"", "\""));
        }
        return all.toString();
    }

    /** Whether a sentence is quoted whole, or in pieces that reach from its first word to its last. */
    private static boolean quoted(Set<String> words, String promise, String sentence) {
        boolean begun = false;
        boolean ended = false;
        for (String one : words) {
            if (one.startsWith(promise + ": ")) {
                String quote = one.substring(promise.length() + 2);
                begun = begun || quote.contains(sentence) || sentence.startsWith(quote);
                ended = ended || quote.contains(sentence) || sentence.endsWith(quote);
            }
        }
        return begun && ended;
    }
}
