import java.io.IOException;
import java.nio.file.Files;
import java.nio.file.Path;
import java.util.LinkedHashMap;
import java.util.Map;

/**
 * The sentences of DOC.md, by the heads of its parts. A test quotes one word for word ahead of the
 * answers that hang on it; what no test has quoted is told at the end.
 */
final class Sentences {
    private static final Path DOC = Path.of("../shared/DOC.md");

    private final Check check;
    private final Map<String, String> parts = new LinkedHashMap<>();
    private final Map<String, String> unquoted = new LinkedHashMap<>();
    private String part = "";
    private String sentence = "";

    Sentences(Check check) throws IOException {
        this.check = check;
        if (!Files.isReadable(DOC)) {
            System.out.println(DOC + " is not here: the answers are held, the quotes are not");
            return;
        }
        for (String text : Files.readString(DOC).split("\n## ")) {
            String head = text.split("[:\n]")[0];
            String body = text.substring(text.indexOf('\n') + 1).replaceAll("\\s+", " ").trim();
            parts.put(head, body);
            unquoted.put(head, body);
        }
    }

    void open(String head) {
        part = head;
        sentence = "";
        check.holds("the document has " + head, parts.isEmpty() || parts.containsKey(head));
    }

    void says(String quote) {
        sentence = quote;
        check.holds(part + " says: " + quote, parts.getOrDefault(part, quote).contains(quote));
        unquoted.put(part, unquoted.getOrDefault(part, "").replace(quote, "|"));
    }

    void due(String call, long got, long want) {
        check.due(part + ", '" + sentence + "': " + call, got, want);
    }

    /** What is left of a part must be its marks alone: those that fit the pattern. */
    void nothingLeft(String head, String marks) {
        String left = unquoted.getOrDefault(head, "").replaceAll(marks, "").replace("|", "").trim();
        check.holds(head + " leaves nothing unquoted, not: " + left, left.isEmpty());
    }
}
