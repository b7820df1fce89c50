import java.io.IOException;
import java.io.UncheckedIOException;
import java.nio.file.Files;
import java.nio.file.Path;
import java.util.LinkedHashMap;
import java.util.Map;
import java.util.Set;

/** The document's own text, so that no sentence of it is forgotten, and none is quoted that it does not have. */
final class Document {
    private static final Path TEXT = Path.of("..", "shared", "DOC.md");
    /** The title, the face (see FaceTest), and what is promised to nobody. */
    private static final Set<String> WITHOUT_SENTENCES = Set.of("RuleRounds", "The public face", "Not promised");

    private Document() {
    }

    /** Every word of the document stands in a sentence that is quoted. */
    static void isQuotedWhole() {
        if (!Files.exists(TEXT)) {
            System.out.println(TEXT + " is not here: the sentences are not held against it");
            return;
        }
        Map<String, String> sections = sections();
        for (String heading : Sentence.headings()) {
            Checks.due("heading \"" + heading + "\" in the document", true, sections.containsKey(heading));
        }
        sections.forEach((heading, text) -> {
            if (!WITHOUT_SENTENCES.contains(heading)) {
                Checks.due(heading + ", words without a test", "", unquoted(heading, text));
            }
        });
    }

    private static String unquoted(String heading, String text) {
        StringBuilder left = new StringBuilder(text);
        for (String words : Sentence.quotedUnder(heading)) {
            int at = text.indexOf(words);
            Checks.due(heading + ", \"" + words + "\" in the document", true, at >= 0);
            for (; at >= 0; at = text.indexOf(words, at + 1)) {
                left.replace(at, at + words.length(), " ".repeat(words.length()));
            }
        }
        return left.toString().replaceAll("[^A-Za-z0-9]+", " ").trim();
    }

    /** The text below each heading in one line, without the method's signature. */
    private static Map<String, String> sections() {
        Map<String, String> sections = new LinkedHashMap<>();
        String heading = "";
        for (String line : lines()) {
            if (line.startsWith("#")) {
                heading = line.replaceFirst("^#+ ", "");
                sections.put(heading, "");
            } else if (!line.startsWith("```")) {
                sections.merge(heading, " " + line.trim(), String::concat);
            }
        }
        sections.replaceAll((title, text) -> text.replaceAll(" +", " ").trim().replaceFirst("^`[^`]*`: ", ""));
        return sections;
    }

    private static Iterable<String> lines() {
        try {
            return Files.readAllLines(TEXT);
        } catch (IOException e) {
            throw new UncheckedIOException(e);
        }
    }
}
