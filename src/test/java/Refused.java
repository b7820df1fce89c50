import java.util.function.Consumer;
import java.util.function.Supplier;

/** A call that is refused: it throws just what is due, and leaves the object as if it had never been made. */
final class Refused {
    private Refused() {
    }

    static void argument(String what, Supplier<RuleRounds> made, Consumer<RuleRounds> call) {
        refuse("IllegalArgumentException", what, made, call);
    }

    static void state(String what, Supplier<RuleRounds> made, Consumer<RuleRounds> call) {
        refuse("IllegalStateException", what, made, call);
    }

    private static void refuse(String due, String what, Supplier<RuleRounds> made, Consumer<RuleRounds> call) {
        Tour.staysBehind(what, made, x -> Checks.due(what, due, Checks.thrownBy(() -> call.accept(x))));
    }
}
