import java.io.IOException;
import java.io.UncheckedIOException;
import java.nio.file.Files;
import java.nio.file.Path;
import java.util.HashMap;
import java.util.Map;

/** The document, so that a test which names a sentence of it names one that is there. */
final class Document {
    private static final Map<String, String> PARTS = read();

    private Document() {
    }

    /** Whether the words stand below the heading, which may be named up to its colon or from it on. */
    static boolean says(String heading, String words) {
        return part(heading).contains(words);
    }

    /** What stands below the heading, with a single space for white space; nothing if there is none. */
    static String part(String heading) {
        return PARTS.getOrDefault(heading, "");
    }

    private static Map<String, String> read() {
        Map<String, String> parts = new HashMap<>();
        for (String part : text().split("(?m)^## ")) {
            String[] headingAndWords = part.split("\n", 2);
            String words = headingAndWords.length == 2 ? headingAndWords[1] : "";
            for (String heading : headingAndWords[0].split(": ")) {
                parts.put(heading, words.replaceAll("\\s+", " "));
            }
        }
        return parts;
    }

    private static String text() {
        String file = System.getProperty("document", "../shared/DOC.md");
        try {
            return Files.readString(Path.of(file));
        } catch (IOException e) {
            throw new UncheckedIOException(e);
        }
    }
}
