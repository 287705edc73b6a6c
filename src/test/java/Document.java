import java.io.IOException;
import java.nio.file.Files;
import java.nio.file.Path;
import java.util.LinkedHashMap;
import java.util.Map;

/** The document by its sections, and what of each section no test has named yet. */
final class Document {
    private static final Path PLACE = Path.of("../shared/DOC.md");

    private final Map<String, String> whole = new LinkedHashMap<>();
    private final Map<String, String> unnamed = new LinkedHashMap<>();

    Document() throws IOException {
        String title = "";
        for (String line : Files.readAllLines(PLACE)) {
            if (line.startsWith("## ")) {
                // "Promise 2: type" is called "Promise 2".
                title = line.substring(3).replaceAll(":.*", "");
            } else if (!isMarkup(line)) {
                whole.merge(title, oneLine(line), (text, more) -> oneLine(text + " " + more));
            }
        }
        unnamed.putAll(whole);
    }

    static boolean isThere() {
        return Files.isReadable(PLACE);
    }

    /** Titles, signatures and the names of groups say nothing themselves; FaceTest looks at the signatures. */
    private static boolean isMarkup(String line) {
        return line.startsWith("#") || line.startsWith("`") || line.startsWith("---- ") || line.isBlank();
    }

    private static String oneLine(String text) {
        return text.replaceAll("\\s+", " ").trim();
    }

    /** Whether a section has a sentence; it is named then. */
    boolean names(String section, String sentence) {
        if (!whole.getOrDefault(section, "").contains(sentence)) {
            return false;
        }
        unnamed.put(section, unnamed.get(section).replace(sentence, " "));
        return true;
    }

    /** What no test has named, section by section, but for the marks of lists and the words before a paragraph. */
    Map<String, String> unnamed() {
        Map<String, String> rest = new LinkedHashMap<>();
        unnamed.forEach((section, text) -> {
            String words = oneLine(text.replaceAll("\\b[A-Z]{4,}\\.", " ").replaceAll("(?<= |^)-(?= |$)", " "));
            if (!words.isEmpty()) {
                rest.put(section, words);
            }
        });
        return rest;
    }
}
