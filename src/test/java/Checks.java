/** Counts answers that are due; a test program ends with finish(). */
final class Checks {
    private int right = 0;
    private int wrong = 0;

    void due(String call, long got, long want) {
        note(got == want, call, String.valueOf(got), String.valueOf(want));
    }

    void due(String call, float got, float want) {
        note(Float.compare(got, want) == 0, call, String.valueOf(got), String.valueOf(want));
    }

    void holds(String rule, boolean kept) {
        note(kept, rule, "false", "true");
    }

    private void note(boolean ok, String call, String got, String want) {
        if (ok) {
            right++;
            return;
        }
        wrong++;
        // A broken promise may be seen in thousands of calls; the first few tell enough.
        if (wrong <= 40) {
            System.out.println(call + " answered " + got + ", due is " + want);
        }
    }

    boolean anyWrong() {
        return wrong > 0;
    }

    void finish(String program) {
        System.out.println(program + ": " + right + " answers as due, " + wrong + " not");
        if (wrong > 0) {
            System.exit(1);
        }
    }
}
