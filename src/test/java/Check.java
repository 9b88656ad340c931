/** Counts the answers that are not the ones that are due, and ends the program by them. */
final class Check {
    private int wrong;
    private int right;

    void due(String call, double got, double want) {
        if (got == want) {
            right++;
            return;
        }
        wrong++;
        System.out.println("  " + call + " answered " + got + ", due is " + want);
    }

    void holds(String what, boolean condition) {
        due(what, condition ? 1 : 0, 1);
    }

    int right() {
        return right;
    }

    /** Whether there were answers, and all of them the due ones. */
    boolean passes() {
        return wrong == 0 && right > 0;
    }

    /** Prints the outcome; ends the program with exit code 1 if an answer was wrong. */
    void end(String name) {
        System.out.println("  " + name + ": " + right + " answers as due, " + wrong + " not");
        if (!passes()) {
            System.exit(1);
        }
    }
}
