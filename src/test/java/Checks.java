/** Counts checks and prints each one that fails. */
final class Checks {
    private final String title;
    private int right = 0;
    private int wrong = 0;

    Checks(String title) {
        this.title = title;
    }

    /** A call that may throw. */
    interface Call {
        Object answer();
    }

    void same(String what, Object want, Object got) {
        if (want == null ? got == null : want.equals(got)) {
            right++;
            return;
        }
        wrong++;
        System.out.println(title + ": " + what + ": due is " + want + ", answered " + got);
    }

    void isTrue(String what, boolean got) {
        same(what, true, got);
    }

    /** Checks that a call throws exactly this class. */
    void refused(String what, Class<? extends RuntimeException> want, Call call) {
        Object got;
        try {
            got = call.answer();
        } catch (RuntimeException thrown) {
            got = thrown.getClass();
        }
        same(what, want, got);
    }

    /** Prints the count and ends the program, with exit code 1 if a check failed. */
    void close() {
        System.out.println(title + ": " + right + " checks right, " + wrong + " wrong");
        System.exit(wrong == 0 && right > 0 ? 0 : 1);
    }
}
