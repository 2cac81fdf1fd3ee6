/** Counts the answers that are not the ones due, and ends a test with exit code 1 if there are any. */
final class Checks {
    /** A call of the class under test. A boolean counts 1 or 0, and no answer counts 0. */
    interface Call {
        long answer();
    }

    /** A call without an answer. */
    interface Act {
        void run();
    }

    static final String INDEX = "java.lang.IndexOutOfBoundsException";
    static final String ARGUMENT = "java.lang.IllegalArgumentException";

    private static final int SHOWN = 40;

    private int made = 0;
    private int wrong = 0;

    void due(String what, long want, long got) {
        if (want != got) {
            tell(what + " answered " + got + ", due is " + want);
        }
        made++;
    }

    void due(String what, boolean want, boolean got) {
        due(what, want ? 1 : 0, got ? 1 : 0);
    }

    void due(String what, String want, String got) {
        if (!want.equals(got)) {
            tell(what + " answered " + got + ", due is " + want);
        }
        made++;
    }

    /** The exact class is asked for, so that what the machine throws by itself is not taken for it. */
    void dueThrow(String what, String want, Act act) {
        due(what, want, thrownBy(act));
    }

    static String thrownBy(Act act) {
        try {
            act.run();
            return "nothing";
        } catch (RuntimeException e) {
            return e.getClass().getName();
        }
    }

    /** The answer of a call as a text, or the exact class of what it threw. */
    static String told(Call call) {
        try {
            return Long.toString(call.answer());
        } catch (RuntimeException e) {
            return e.getClass().getName();
        }
    }

    void end() {
        System.out.println(wrong == 0 ? made + " answers, all as due" : wrong + " answers are not as due");
        if (wrong != 0 || made == 0) {
            System.exit(1);
        }
    }

    private void tell(String text) {
        wrong++;
        if (wrong <= SHOWN) {
            System.out.println(text);
        }
    }
}
