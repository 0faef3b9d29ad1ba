/** Counts and prints the answers that are not the due ones. */
final class Check {
    private static int checks = 0;
    private static int failures = 0;

    private Check() {
    }

    interface Call {
        void make();
    }

    static void due(String call, long got, long want) {
        checks++;
        if (got != want) {
            failures++;
            System.out.println(call + " answered " + got + ", due is " + want);
        }
    }

    static void holds(String what, boolean is) {
        due(what, is ? 1 : 0, 1);
    }

    static void throwsArgument(String call, Call made) {
        throwsNamed(call, made, "IllegalArgumentException");
    }

    static void throwsState(String call, Call made) {
        throwsNamed(call, made, "IllegalStateException");
    }

    static void throwsIndex(String call, Call made) {
        throwsNamed(call, made, "IndexOutOfBoundsException");
    }

    private static void throwsNamed(String call, Call made, String want) {
        checks++;
        String got = "nothing";
        try {
            made.make();
        } catch (RuntimeException e) {
            got = e.getClass().getSimpleName();
            // The library throws some of these by itself; it never may.
            if (!e.getStackTrace()[0].getClassName().startsWith("Stratalog")) {
                got += " by " + e.getStackTrace()[0];
            }
        }
        if (!got.equals(want)) {
            failures++;
            System.out.println(call + " throws " + got + ", due is " + want);
        }
    }

    static int failures() {
        return failures;
    }

    /** Ends the program: with exit code 1, if an answer was not the due one. */
    static void end() {
        System.out.println(checks + " checks, " + failures + " wrong");
        System.exit(failures == 0 ? 0 : 1);
    }
}
