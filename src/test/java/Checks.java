/** Counts the answers that are not as due, and prints each of them. */
final class Checks {
    /** A call that is to be tried. */
    interface Call {
        Object answer();
    }

    private int wrong = 0;
    private int all = 0;
    private String test = "";

    /** What is checked from now on belongs to this test. */
    void begin(String name) {
        test = name + ": ";
    }

    void due(String call, Object got, Object want) {
        all++;
        if (!got.equals(want)) {
            wrong++;
            System.out.println(test + call + " answered " + got + ", due is " + want);
        }
    }

    void due(String call, int got, int want) {
        due(call, (Object) got, (Object) want);
    }

    /** The call must throw just this exception, not one below it. */
    void throwsJust(String call, Class<? extends RuntimeException> kind, Call tried) {
        due(call, answerOf(tried), "throws." + kind.getSimpleName());
    }

    /** What the call answers, or the name of what it throws. */
    static Object answerOf(Call tried) {
        try {
            return tried.answer();
        } catch (RuntimeException e) {
            return "throws." + e.getClass().getSimpleName();
        }
    }

    int wrong() {
        return wrong;
    }

    int all() {
        return all;
    }

    void end() {
        System.out.println(wrong + " of " + all + " answers are not as due");
        if (wrong != 0) {
            System.exit(1);
        }
    }
}
