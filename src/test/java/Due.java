import java.util.Set;

/** Compares answers with those that are due, and tells of each that is not. */
final class Due {
    /** Of these the place that called them is told. */
    private static final Set<String> HELPERS = Set.of("Due", "Made");

    private final String test;
    private int right;
    private int wrong;

    Due(String test) {
        this.test = test;
    }

    void is(long got, long want) {
        if (got == want) {
            right++;
            return;
        }
        wrong++;
        System.out.println(caller() + ": answered " + got + ", due is " + want);
    }

    void isTrue(String what, boolean right) {
        if (!right) {
            System.out.println("not so: " + what);
        }
        is(right ? 1 : 0, 1);
    }

    void same(String what, String got, String want) {
        if (!got.equals(want)) {
            System.out.println(what + ": told " + got + "\n    due is " + want);
        }
        is(got.equals(want) ? 1 : 0, 1);
    }

    /** Ends the program with exit code 1 if an answer was wrong. */
    void end() {
        System.out.println(test + ": " + right + " answers as due, " + wrong + " not");
        if (wrong != 0 || right == 0) {
            System.exit(1);
        }
    }

    private static String caller() {
        return StackWalker.getInstance().walk(frames -> frames
                .filter(frame -> !HELPERS.contains(frame.getClassName()))
                .findFirst()
                .map(frame -> frame.getFileName() + ":" + frame.getLineNumber())
                .orElse("?"));
    }
}
