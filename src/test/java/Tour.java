import java.util.function.Consumer;
import java.util.function.IntSupplier;
import java.util.function.Supplier;

/** What an object answers, as one text: all that can be seen of it first, then how it goes on from there. */
final class Tour {
    /** The object that goes on a tour had calls before it; all of them together stay below 512. */
    private static final int MOST_CALLS = 250;

    private final RuleRounds x;
    private final StringBuilder seen = new StringBuilder();
    private int calls = 0;

    private Tour(RuleRounds x) {
        this.x = x;
    }

    /** Holds an object with the call behind it against one that was never asked. */
    static void staysBehind(String what, Supplier<RuleRounds> made, Consumer<RuleRounds> call) {
        RuleRounds asked = made.get();
        call.accept(asked);
        Checks.due(what + " leaves", of(made.get()), of(asked));
    }

    static String of(RuleRounds x) {
        Tour tour = new Tour(x);
        tour.lookAround();
        tour.goOn();
        return tour.seen.toString();
    }

    private void lookAround() {
        see("rounds", x::rounds);
        see("strata", x::strata);
        for (int relation = 0; relation < 12; relation++) {
            final int r = relation;
            int count = see("count " + r, () -> x.count(r));
            if (count < 0) {
                break;
            }
            see("stratum " + r, () -> x.stratum(r));
            if (count > 0) {
                lookAtTuple(r, 0);
                lookAtTuple(r, count / 2);
                lookAtTuple(r, count - 1);
            }
        }
        lookAtMatches();
    }

    private void lookAtTuple(int relation, int place) {
        for (int what = 0; what < 5; what++) {
            final int w = what;
            see("tuple " + relation + " " + place + " " + w, () -> x.tuple(relation, place, w));
        }
    }

    private void lookAtMatches() {
        for (int rule = 0; rule < 24; rule++) {
            final int r = rule;
            if (see("matches " + r, () -> x.matches(r)) < 0) {
                return;
            }
        }
    }

    private void goOn() {
        see("step", x::step);
        see("rounds", x::rounds);
        see("item", () -> x.item(2, 0, 1, 2, 0));
        int rule = see("rule", x::rule);
        see("matches", () -> x.matches(rule));
        see("item", () -> x.item(2, 0, 1, 2, 0));
        see("run", x::run);
        see("rounds", x::rounds);
        see("relation", () -> x.relation(1));
        for (int relation = 0; relation < 12; relation++) {
            final int r = relation;
            see("count " + r, () -> x.count(r));
        }
    }

    /** The answer, or a number below all answers if the call throws. */
    private int see(String what, IntSupplier call) {
        int answer = Integer.MIN_VALUE;
        if (calls < MOST_CALLS) {
            calls++;
            try {
                answer = call.getAsInt();
                seen.append(what).append(": ").append(answer).append("; ");
            } catch (RuntimeException e) {
                seen.append(what).append(": ").append(e.getClass().getSimpleName()).append("; ");
            }
        }
        return answer;
    }
}
