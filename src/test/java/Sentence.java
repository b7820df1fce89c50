import java.util.ArrayList;
import java.util.LinkedHashMap;
import java.util.List;
import java.util.Map;

/** A sentence of the document, or a part of one, and the test that fails if it does not hold. */
final class Sentence {
    /** For each heading of the document the words under it that are tested, or that name no boundary. */
    private static final Map<String, List<String>> QUOTED = new LinkedHashMap<>();

    private Sentence() {
    }

    static void holds(String heading, String words, Runnable test) {
        namesNoBoundary(heading, words);
        Checks.within(heading + ", \"" + words + "\"", test);
    }

    static void namesNoBoundary(String heading, String words) {
        QUOTED.computeIfAbsent(heading, none -> new ArrayList<>()).add(words);
    }

    static List<String> quotedUnder(String heading) {
        return QUOTED.getOrDefault(heading, List.of());
    }

    static Iterable<String> headings() {
        return QUOTED.keySet();
    }
}
