/** What the tests have in common: short names for checks, and states that are often made. */
abstract class TestBase {
    static final int NONE = Stratalog.NONE;
    static final int NO_VALUE = Stratalog.NO_VALUE;
    static final int DONE = Stratalog.DONE;
    static final int CONFLICT = Stratalog.CONFLICT;
    static final int[] NO_FAMILIES = {-1, 2, Integer.MIN_VALUE, Integer.MAX_VALUE};
    static final int[] NO_KEYS = {-1, 64, Integer.MIN_VALUE, Integer.MAX_VALUE};
    static final int[] NO_VALUES = {-10000, 10000, Integer.MIN_VALUE, Integer.MAX_VALUE};

    /** A run of calls on an object. */
    interface Script {
        void on(Stratalog x);
    }

    static void due(String call, long got, long want) {
        Check.due(call, got, want);
    }

    // ---- making

    static void putMany(Stratalog x, int family, int count) {
        for (int i = 0; i < count; i++) {
            x.put(family, i % 64, i);
        }
    }

    /** A flushed run with a PUT of 1 at each key of a range. */
    static void runOf(Stratalog x, int family, int from, int to) {
        for (int key = from; key <= to; key++) {
            x.put(family, key, 1);
        }
        x.flush(family);
    }

    static void oneRun(Stratalog x, int family, int key) {
        runOf(x, family, key, key);
    }

    static void clearRun(Stratalog x, int family, int from, int to) {
        x.clear(family, from, to);
        x.flush(family);
    }

    static void markRun(Stratalog x, int family, int... keys) {
        for (int key : keys) {
            x.mark(family, key);
        }
        x.flush(family);
    }

    /** Rows of a range, taken in. */
    static int takeOf(Stratalog x, int family, int from, int to, int value) {
        for (int key = from; key <= to; key++) {
            x.row(key, value);
        }
        return x.take(family);
    }

    /** Rows of some keys, each with the value 1, taken in. */
    static int takeKeys(Stratalog x, int family, int... keys) {
        for (int key : keys) {
            x.row(key, 1);
        }
        return x.take(family);
    }

    /** One run over all keys in the level 3 and one in the level 2: what is taken in next goes into the level 1. */
    static void footing(Stratalog x, int family) {
        due("footing of the level 3", takeKeys(x, family, 0, 63), 3);
        due("footing of the level 2", takeKeys(x, family, 0, 63), 2);
    }

    static Stratalog stalled() {
        Stratalog x = new Stratalog();
        putMany(x, 0, 40);
        return x;
    }

    // ---- checking

    /** Where the span of a run begins and ends, its entries and its greatest number. */
    static void dueRun(Stratalog x, int family, int level, int place, int[] want) {
        for (int what = 0; what < 4; what++) {
            String call = "run(" + family + ", " + level + ", " + place + ", " + what + ")";
            due(call, x.run(family, level, place, what), want[what]);
        }
    }

    /** How many runs, entries and CLEARs a level has, and its score. */
    static void dueLevel(Stratalog x, int family, int level, int[] want) {
        for (int what = 0; what < 4; what++) {
            due("level(" + family + ", " + level + ", " + what + ")", x.level(family, level, what), want[what]);
        }
    }

    /** All runs of a level: where each span begins and ends, and how many entries there are. */
    static void dueRuns(Stratalog x, int family, int level, int[][] want) {
        due("runs of the level " + level, x.level(family, level, 0), want.length);
        for (int place = 0; place < want.length && place < x.level(family, level, 0); place++) {
            for (int what = 0; what < 3; what++) {
                String call = "run(" + family + ", " + level + ", " + place + ", " + what + ")";
                due(call, x.run(family, level, place, what), want[place][what]);
            }
        }
        int end = want.length;
        Check.throwsIndex("the place behind the last run", () -> x.run(family, level, end, 0));
    }

    /** The values of the keys from one on. */
    static void dueValues(Stratalog x, int family, int from, int snapshot, int... want) {
        for (int i = 0; i < want.length; i++) {
            int key = from + i;
            due("get(" + family + ", " + key + ", " + snapshot + ")", x.get(family, key, snapshot), want[i]);
        }
    }
}
