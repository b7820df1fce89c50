/** Counts and prints the answers that are not the ones that are due. */
final class Checks {
    private static int made = 0;
    private static int wrong = 0;
    /** Stands before each answer that is printed. */
    private static String place = "";

    private Checks() {
    }

    static void due(String what, long want, long got) {
        due(what, Long.toString(want), Long.toString(got));
    }

    static void due(String what, boolean want, boolean got) {
        due(what, want ? 1 : 0, got ? 1 : 0);
    }

    static void due(String what, String want, String got) {
        made++;
        if (!want.equals(got)) {
            wrong++;
            System.out.println(place + what + " answered " + got + ", due is " + want);
        }
    }

    static void argument(String what, Runnable call) {
        due(what, "IllegalArgumentException", thrownBy(call));
    }

    static void state(String what, Runnable call) {
        due(what, "IllegalStateException", thrownBy(call));
    }

    static String thrownBy(Runnable call) {
        try {
            call.run();
        } catch (RuntimeException e) {
            return e.getClass().getSimpleName();
        }
        return "no exception";
    }

    /** A test of its own: it looks at one answer at least, and an exception in it is wrong, but ends no other test. */
    static void within(String name, Runnable test) {
        int madeBefore = made;
        place = name + ": ";
        due("the test", "no exception", thrownBy(test));
        due("whether it looks at an answer", true, made > madeBefore + 1);
        place = "";
    }

    static void end() {
        System.out.println(made + " answers looked at, " + wrong + " not as due");
        if (wrong != 0 || made == 0) {
            System.exit(1);
        }
    }
}
