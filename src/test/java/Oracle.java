import java.util.ArrayList;
import java.util.Arrays;
import java.util.HashSet;
import java.util.List;
import java.util.Map;
import java.util.Set;
import java.util.TreeMap;

/**
 * The document once more, as plainly as can be and without a care for speed: every round goes through all
 * tuples for each HOLDS, and looks at the other items when all variables have values.
 */
final class Oracle {
    private record Part(int kind, int relation, int[] terms) {
    }

    private static final class Clause {
        final Part head;
        final List<Part> items = new ArrayList<>();

        Clause(Part head) {
            this.head = head;
        }
    }

    private final List<Integer> columns = new ArrayList<>();
    private final List<Clause> rules = new ArrayList<>();
    /** For each tuple (relation, a, b, c as one text in order) its round and rule. */
    private final TreeMap<String, int[]> there = new TreeMap<>();
    private Clause draft = null;
    private int stratum = 0;
    private int rounds = 0;

    // ---- the face -------------------------------------------------------------------------------------

    int relation(int width) {
        argument(width >= 1 && width <= 3);
        state(columns.size() < 12);
        columns.add(width);
        anew();
        return columns.size() - 1;
    }

    int fact(int relation, int a, int b, int c) {
        checkNumbers(relation, 63, a, b, c);
        String key = key(relation, a, b, c);
        if (isFact(key)) {
            return 0;
        }
        state(factCount() < 200);
        anew();
        there.put(key, new int[] {0, -1});
        return 1;
    }

    int drop(int relation, int a, int b, int c) {
        checkNumbers(relation, 63, a, b, c);
        String key = key(relation, a, b, c);
        if (!isFact(key)) {
            return 0;
        }
        there.remove(key);
        anew();
        return 1;
    }

    int head(int relation, int a, int b, int c) {
        checkNumbers(relation, 71, a, b, c);
        draft = new Clause(new Part(0, relation, new int[] {a, b, c}));
        return 0;
    }

    int item(int kind, int relation, int a, int b, int c) {
        argument(kind >= 0 && kind <= 3);
        if (kind <= 1) {
            checkNumbers(relation, 71, a, b, c);
        } else {
            argument(relation == 0 && c == 0 && a >= 0 && a <= 71 && b >= 0 && b <= 71);
        }
        state(draft != null);
        state(draft.items.size() < 6);
        state(kind != 0 || draft.items.stream().filter(i -> i.kind == 0).count() < 3);
        draft.items.add(new Part(kind, relation, new int[] {a, b, c}));
        return draft.items.size();
    }

    int rule() {
        state(draft != null);
        state(rules.size() < 24);
        Set<Integer> held = new HashSet<>();
        Set<Integer> used = new HashSet<>();
        variables(draft.head, used);
        for (Part item : draft.items) {
            variables(item, item.kind == 0 ? held : used);
        }
        if (!held.containsAll(used)) {
            return -2;
        }
        rules.add(draft);
        draft = null;
        anew();
        return rules.size() - 1;
    }

    int strata() {
        int[] levels = levels();
        return levels == null ? -3 : Arrays.stream(levels).map(level -> level + 1).max().orElse(0);
    }

    int stratum(int relation) {
        checkRelation(relation);
        int[] levels = levels();
        state(levels != null);
        return levels[relation];
    }

    int step() {
        int[] levels = levels();
        if (levels == null) {
            return -3;
        }
        if (stratum >= strata()) {
            return -4;
        }
        Map<String, Integer> came = new TreeMap<>();
        for (int number = 0; number < rules.size(); number++) {
            Clause rule = rules.get(number);
            if (levels[rule.head.relation] == stratum) {
                for (List<Integer> match : matchesOf(rule)) {
                    String key = key(rule.head, match);
                    if (!there.containsKey(key)) {
                        came.putIfAbsent(key, number);
                    }
                }
            }
        }
        if (there.size() + came.size() > 300) {
            return -5;
        }
        rounds++;
        came.forEach((key, number) -> there.put(key, new int[] {rounds, number}));
        if (came.isEmpty()) {
            stratum++;
        }
        return came.size();
    }

    int run() {
        while (true) {
            int came = step();
            if (came == -4) {
                return there.size() - factCount();
            }
            if (came < 0) {
                return came;
            }
        }
    }

    int rounds() {
        return rounds;
    }

    int count(int relation) {
        checkRelation(relation);
        return tuplesOf(relation).size();
    }

    int has(int relation, int a, int b, int c) {
        checkNumbers(relation, 63, a, b, c);
        return there.containsKey(key(relation, a, b, c)) ? 1 : 0;
    }

    int tuple(int relation, int place, int what) {
        checkRelation(relation);
        List<String> keys = tuplesOf(relation);
        argument(place >= 0 && place < keys.size() && what >= 0 && what <= 4);
        String key = keys.get(place);
        return what <= 2 ? key.charAt(what + 1) : there.get(key)[what - 3];
    }

    int like(int relation, int a, int b, int c) {
        checkNumbers(relation, 71, a, b, c);
        Clause question = new Clause(null);
        question.items.add(new Part(0, relation, new int[] {a, b, c}));
        return matchesOf(question).size();
    }

    int matches(int rule) {
        argument(rule >= 0 && rule < rules.size());
        return matchesOf(rules.get(rule)).size();
    }

    // ---- behind it ------------------------------------------------------------------------------------

    private static void argument(boolean fine) {
        if (!fine) {
            throw new IllegalArgumentException();
        }
    }

    private static void state(boolean fine) {
        if (!fine) {
            throw new IllegalStateException();
        }
    }

    private void checkRelation(int relation) {
        argument(relation >= 0 && relation < columns.size());
    }

    private void checkNumbers(int relation, int greatest, int... numbers) {
        checkRelation(relation);
        for (int column = 0; column < 3; column++) {
            int top = column < columns.get(relation) ? greatest : 0;
            argument(numbers[column] >= 0 && numbers[column] <= top);
        }
    }

    private static String key(int relation, int a, int b, int c) {
        return new String(new char[] {(char) relation, (char) a, (char) b, (char) c});
    }

    private static String key(Part part, List<Integer> match) {
        return key(part.relation, value(part.terms[0], match), value(part.terms[1], match),
                value(part.terms[2], match));
    }

    private static int value(int term, List<Integer> match) {
        return term < 64 ? term : match.get(term - 64);
    }

    private boolean isFact(String key) {
        return there.containsKey(key) && there.get(key)[0] == 0;
    }

    private int factCount() {
        return (int) there.values().stream().filter(when -> when[0] == 0).count();
    }

    private void anew() {
        there.values().removeIf(when -> when[0] != 0);
        stratum = 0;
        rounds = 0;
    }

    private static void variables(Part part, Set<Integer> into) {
        for (int term : part.terms) {
            if (term >= 64) {
                into.add(term);
            }
        }
    }

    private List<String> tuplesOf(int relation) {
        List<String> keys = new ArrayList<>();
        for (String key : there.keySet()) {
            if (key.charAt(0) == relation) {
                keys.add(key);
            }
        }
        return keys;
    }

    /** The least numbers, or null if there are none: then some number would pass that of the relations. */
    private int[] levels() {
        int[] levels = new int[columns.size()];
        boolean rests = false;
        while (!rests) {
            rests = true;
            for (Clause rule : rules) {
                for (Part item : rule.items) {
                    if (item.kind <= 1 && levels[rule.head.relation] < levels[item.relation] + item.kind) {
                        levels[rule.head.relation]++;
                        rests = false;
                    }
                }
                if (levels[rule.head.relation] > columns.size()) {
                    return null;
                }
            }
        }
        return levels;
    }

    private Set<List<Integer>> matchesOf(Clause rule) {
        Set<List<Integer>> found = new HashSet<>();
        search(rule, 0, Arrays.asList(-1, -1, -1, -1, -1, -1, -1, -1), found);
        return found;
    }

    private void search(Clause rule, int index, List<Integer> match, Set<List<Integer>> found) {
        if (index == rule.items.size()) {
            if (rule.items.stream().allMatch(item -> holds(item, match))) {
                found.add(match);
            }
            return;
        }
        Part item = rule.items.get(index);
        if (item.kind != 0) {
            search(rule, index + 1, match, found);
            return;
        }
        for (String key : tuplesOf(item.relation)) {
            List<Integer> wider = new ArrayList<>(match);
            boolean fits = true;
            for (int column = 0; column < 3; column++) {
                int term = item.terms[column];
                if (term >= 64 && wider.get(term - 64) < 0) {
                    wider.set(term - 64, (int) key.charAt(column + 1));
                }
                fits = fits && value(term, wider) == key.charAt(column + 1);
            }
            if (fits) {
                search(rule, index + 1, wider, found);
            }
        }
    }

    private boolean holds(Part item, List<Integer> match) {
        int a = value(item.terms[0], match);
        int b = value(item.terms[1], match);
        switch (item.kind) {
            case 0:
                return there.containsKey(key(item, match));
            case 1:
                return !there.containsKey(key(item, match));
            case 2:
                return a < b;
            default:
                return a != b;
        }
    }
}
