/** Counts answers that are due and prints those that are not. */
final class Check {
    interface Call {
        Object answer();
    }

    private int right;
    private int wrong;
    private String where = "";

    void at(String place) {
        where = place;
    }

    void due(String call, Object got, Object want) {
        if (want == null ? got == null : want.equals(got)) {
            right++;
            return;
        }
        wrong++;
        System.out.println(where + ": " + call + " answered " + got + ", due is " + want);
    }

    /** The call must throw just this class of exception. */
    void throwsDue(String name, Class<? extends RuntimeException> kind, Call call) {
        due(name, outcome(call), "throws " + kind.getSimpleName());
    }

    static Object outcome(Call call) {
        try {
            return call.answer();
        } catch (RuntimeException e) {
            return "throws " + e.getClass().getSimpleName();
        }
    }

    /** Ends the test: exit code 1 if an answer was wrong, or if nothing was asked. */
    void end() {
        System.out.println(right + " answers as due, " + wrong + " not");
        if (wrong != 0 || right == 0) {
            System.exit(1);
        }
    }
}
