import java.io.IOException;
import java.nio.file.Files;
import java.nio.file.Path;
import java.util.Arrays;

/**
 * The document's words from its Terms to its last promise. A test quotes the sentence that it is for;
 * a quotation that the document has not, and a word of the document that no test quotes, are told.
 */
final class Document {
    private static final Path FILE = Path.of("../shared/DOC.md");

    private final Checks checks;
    private final String text;
    private final boolean[] quoted;
    private String sentence = "";

    Document(Checks checks) throws IOException {
        this.checks = checks;
        String whole = Files.readString(FILE);
        int first = Math.max(0, whole.indexOf("## Terms"));
        int last = whole.indexOf("## Not promised");
        text = plain(whole.substring(first, last < first ? whole.length() : last));
        quoted = new boolean[text.length()];
    }

    /** Without headings and the marks of a block, in one line. */
    private static String plain(String words) {
        StringBuilder lines = new StringBuilder();
        words.lines().filter(line -> !line.startsWith("#") && !line.startsWith("```"))
            .forEach(line -> lines.append(line.replaceFirst("^==== I+\\. ", "")).append(' '));
        return lines.toString().replaceAll("\\s+", " ");
    }

    /** What is due from here on is due by this sentence. */
    void says(String words) {
        sentence = words;
        int at = text.indexOf(words);
        if (at < 0) checks.note("the document does not say: " + words);
        while (at >= 0) {
            Arrays.fill(quoted, at, at + words.length(), true);
            at = text.indexOf(words, at + 1);
        }
    }

    void due(String call, long got, long want) {
        checks.due("\"" + sentence + "\": " + call, got, want);
    }

    void lookForUnquoted() {
        StringBuilder rest = new StringBuilder();
        for (int i = 0; i <= text.length(); i++) {
            if (i < text.length() && !quoted[i]) {
                rest.append(text.charAt(i));
            } else {
                if (rest.chars().anyMatch(Character::isLetterOrDigit)) checks.note("no test quotes: " + rest);
                rest.setLength(0);
            }
        }
    }
}
