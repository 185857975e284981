/** What the project's tests have in common: they tell every answer that is not the one due. */
final class Checks {
    private int wrong = 0;
    private int made = 0;

    /** A call of the face, or of the plain model; a boolean counts 1 or 0. */
    interface Call {
        long answer();
    }

    void due(String call, long got, long want) {
        made++;
        if (got != want) {
            tell(call + " answered " + got + ", due is " + want);
        }
    }

    void due(String call, boolean got, boolean want) {
        due(call, got ? 1 : 0, want ? 1 : 0);
    }

    /** The class must be the very one: what the machine throws is often of a class below it. */
    void dueThrow(String call, Class<? extends RuntimeException> want, Call made) {
        due(call, outcome(made), "throws." + want.getSimpleName());
    }

    void due(String call, String got, String want) {
        made++;
        if (!got.equals(want)) {
            tell(call + " gave " + got + ", due is " + want);
        }
    }

    static String outcome(Call call) {
        try {
            return Long.toString(call.answer());
        } catch (RuntimeException e) {
            return "throws." + e.getClass().getSimpleName();
        }
    }

    int wrongSoFar() {
        return wrong;
    }

    void end() {
        System.out.println(made + " checks, " + wrong + " wrong");
        if (wrong != 0 || made == 0) {
            System.exit(1);
        }
    }

    private void tell(String text) {
        wrong++;
        if (wrong <= 50) {
            System.out.println(text);
        }
    }
}
