/** Counts checks and prints each one that fails. */
final class Checks {
    private final String title;
    private String part = "";
    private int right = 0;
    private int wrong = 0;

    Checks(String title) {
        this.title = title;
    }

    /** A call that may throw. */
    interface Call {
        Object answer();
    }

    /** Names the test that the next checks belong to. */
    void begin(String part) {
        this.part = part + ": ";
    }

    /** How many checks there were. */
    int count() {
        return right + wrong;
    }

    void same(String what, Object want, Object got) {
        if (want == null ? got == null : want.equals(got)) {
            right++;
            return;
        }
        wrong++;
        System.out.println(title + ": " + part + what + ": due is " + want + ", answered " + got);
    }

    void isTrue(String what, boolean got) {
        same(what, true, got);
    }

    /**
     * Checks that a call throws exactly this class, and by a throw of TileWarden's own: an exception
     * that the library or the machine throws is no refusal, be it of the same class.
     */
    void refused(String what, Class<? extends RuntimeException> want, Call call) {
        try {
            same(what, want, call.answer());
        } catch (RuntimeException thrown) {
            same(what, want, thrown.getClass());
            StackTraceElement[] trace = thrown.getStackTrace();
            String thrower = trace.length > 0 ? trace[0].getClassName() : "nobody";
            same(what + ", thrown by", "TileWarden", thrower.replaceAll("\\$.*", ""));
        }
    }

    /** What a call answers, or the class of what it throws. */
    static Object answer(Call call) {
        try {
            return call.answer();
        } catch (RuntimeException thrown) {
            return thrown.getClass();
        }
    }

    /** Prints the count and ends the program, with exit code 1 if a check failed. */
    void close() {
        System.out.println(title + ": " + right + " checks right, " + wrong + " wrong");
        System.exit(wrong == 0 && right > 0 ? 0 : 1);
    }
}
