import java.io.IOException;
import java.io.UncheckedIOException;
import java.nio.file.Files;
import java.nio.file.Path;
import java.util.ArrayList;
import java.util.LinkedHashMap;
import java.util.List;
import java.util.Map;

/** The sentences of "Terms" and of the promises, by their places. Runs in the project's folder. */
final class Doc {
    private static final Path DOC = Path.of("../shared/DOC.md");

    final Map<String, List<String>> sentences = new LinkedHashMap<>();

    Doc() {
        String doc;
        try {
            doc = Files.readString(DOC);
        } catch (IOException unread) {
            throw new UncheckedIOException(unread);
        }
        for (String part : doc.split("\n## ")) {
            int end = part.indexOf('\n');
            String heading = part.substring(0, end);
            if (heading.equals("Terms")) {
                terms(part.substring(end));
            } else if (heading.startsWith("Promise ")) {
                sentences.put(heading, cut(part.substring(end)));
            }
        }
    }

    private void terms(String text) {
        String[] sections = text.split("======== ");
        for (int k = 0; k < sections.length; k++) {
            sentences.put(k == 0 ? "Terms" : "Terms, section " + k, cut(sections[k]));
        }
    }

    /** A sentence ends with a point behind a word; " .. " ends none. */
    private static List<String> cut(String text) {
        List<String> cut = new ArrayList<>();
        for (String sentence : text.replaceAll("```(text)?", "").split("(?<=[^ .]\\.)\\s+")) {
            if (!sentence.isBlank()) {
                cut.add(sentence.replaceAll("\\s+", " ").trim());
            }
        }
        return cut;
    }
}
