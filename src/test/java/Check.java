/** Counts the answers that a test looks at, and prints those that are not as due. */
final class Check {
    private int made;
    private int wrong;

    void due(String what, long got, long want) {
        made++;
        if (got != want) {
            wrong++;
            System.out.println(what + " answered " + got + ", due is " + want);
        }
    }

    void holds(String what, boolean so) {
        made++;
        if (!so) {
            wrong++;
            System.out.println("does not hold: " + what);
        }
    }

    boolean failed() {
        return wrong > 0;
    }

    /** Ends the test: exit code 1 if an answer was wrong, or if none was looked at. */
    void end() {
        System.out.println(made + " answers, " + wrong + " wrong");
        if (wrong > 0 || made == 0) {
            System.exit(1);
        }
    }
}
