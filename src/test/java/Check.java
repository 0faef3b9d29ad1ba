/** Counts and prints the answers that are not the due ones. */
final class Check {
    private static int checks = 0;
    private static int failures = 0;
    /** Which case the checks that follow belong to. */
    private static String about = "";

    private Check() {
    }

    interface Call {
        void make();
    }

    static void about(String what) {
        about = what + ": ";
    }

    static void due(String call, long got, long want) {
        checks++;
        if (got != want) {
            failures++;
            System.out.println(about + call + " answered " + got + ", due is " + want);
        }
    }

    static void dueText(String call, String got, String want) {
        checks++;
        if (!got.equals(want)) {
            failures++;
            System.out.println(about + call + " answered " + got + ", due is " + want);
        }
    }

    static void holds(String what, boolean is) {
        due(what, is ? 1 : 0, 1);
    }

    static void throwsArgument(String call, Call made) {
        dueText(call, thrownBy(made), "IllegalArgumentException");
    }

    static void throwsState(String call, Call made) {
        dueText(call, thrownBy(made), "IllegalStateException");
    }

    static void throwsIndex(String call, Call made) {
        dueText(call, thrownBy(made), "IndexOutOfBoundsException");
    }

    /** The name of what a call throws. */
    static String thrownBy(Call made) {
        try {
            made.make();
        } catch (RuntimeException e) {
            String name = e.getClass().getSimpleName();
            // The library throws some of these by itself; it never may.
            boolean isOwn = e.getStackTrace()[0].getClassName().startsWith("Stratalog");
            return isOwn ? name : name + " by " + e.getStackTrace()[0];
        }
        return "nothing";
    }

    static int failures() {
        return failures;
    }

    /** Ends the program: with exit code 1, if an answer was not the due one. */
    static void end() {
        System.out.println(checks + " checks, " + failures + " wrong");
        System.exit(failures == 0 ? 0 : 1);
    }
}
