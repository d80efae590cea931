/** Counts the answers that are not as due, for the tests that stand beside it. */
final class Check {
    private final String name;
    private int looked = 0;
    private int wrong = 0;

    Check(String name) {
        this.name = name;
    }

    void due(String what, long want, long got) {
        looked++;
        if (got != want) {
            tell(what + " answered " + got + ", due is " + want);
        }
    }

    void holds(String what, boolean is) {
        looked++;
        if (!is) {
            tell(what);
        }
    }

    /** Ends the program with 1 if an answer was wrong, or if nothing was looked at. */
    void end() {
        System.out.println(name + ": " + looked + " answers, " + wrong + " not as due");
        if (wrong != 0 || looked == 0) {
            System.exit(1);
        }
    }

    int wrong() {
        return wrong;
    }

    private void tell(String text) {
        wrong++;
        if (wrong <= 100) {
            System.out.println(name + ": " + text);
        }
    }
}
