import java.io.IOException;
import java.nio.file.Files;
import java.nio.file.Path;
import java.util.HashMap;
import java.util.List;
import java.util.Map;
import java.util.regex.Matcher;
import java.util.regex.Pattern;

/** The README's example: each of its calls is made, and must answer what the line says. */
public final class ReadmeTest {
    /** A call on x, the name that its answer is given, if any, and the answer that stands behind it, if any. */
    private static final Pattern LINE =
            Pattern.compile("(?:int (\\w+) = )?x\\.(\\w+)\\(([^)]*)\\);\\s*(?:// (true|false|-?\\d+)(?:[:.].*)?)?.*");

    private final RuleRounds x = new RuleRounds();
    private final Map<String, Integer> names = new HashMap<>();

    public static void main(String[] args) throws IOException {
        List<String> lines = Files.readAllLines(Path.of("README.md"));
        int begin = lines.indexOf("```java");
        int end = begin + lines.subList(begin, lines.size()).indexOf("```");
        Checks.due("the example begins with", "RuleRounds x = new RuleRounds();", lines.get(begin + 1));
        ReadmeTest example = new ReadmeTest();
        for (String line : lines.subList(begin + 2, end)) {
            example.follow(line);
        }
        Checks.end();
    }

    private void follow(String line) {
        Matcher parts = LINE.matcher(line);
        if (line.isEmpty()) {
            return;
        }
        Checks.due("a line that is a call: " + line, true, parts.matches());
        String got = answer(parts.group(2), numbers(parts.group(3)));
        boolean silent = parts.group(2).equals("head");
        Checks.due(line, silent ? "nothing" : String.valueOf(parts.group(4)), got);
        if (parts.group(1) != null) {
            names.put(parts.group(1), Integer.valueOf(got));
        }
    }

    private int[] numbers(String written) {
        if (written.isEmpty()) {
            return new int[0];
        }
        String[] words = written.split(", ");
        int[] numbers = new int[words.length];
        for (int i = 0; i < words.length; i++) {
            numbers[i] = names.containsKey(words[i]) ? names.get(words[i]) : Integer.parseInt(words[i]);
        }
        return numbers;
    }

    private String answer(String call, int[] n) {
        switch (call) {
            case "relation":
                return String.valueOf(x.relation(n[0]));
            case "fact":
                return String.valueOf(x.fact(n[0], n[1], n[2], n[3]));
            case "drop":
                return String.valueOf(x.drop(n[0], n[1], n[2], n[3]));
            case "head":
                x.head(n[0], n[1], n[2], n[3]);
                return "nothing";
            case "item":
                return String.valueOf(x.item(n[0], n[1], n[2], n[3], n[4]));
            case "rule":
                return String.valueOf(x.rule());
            case "strata":
                return String.valueOf(x.strata());
            case "run":
                return String.valueOf(x.run());
            case "rounds":
                return String.valueOf(x.rounds());
            case "count":
                return String.valueOf(x.count(n[0]));
            case "has":
                return String.valueOf(x.has(n[0], n[1], n[2], n[3]));
            case "tuple":
                return String.valueOf(x.tuple(n[0], n[1], n[2]));
            case "like":
                return String.valueOf(x.like(n[0], n[1], n[2], n[3]));
            case "matches":
                return String.valueOf(x.matches(n[0]));
            default:
                return "no such call";
        }
    }
}
