/** The edges of pressure, of drafting rows and of taking them in. */
public final class TakeTests extends TestBase {
    private TakeTests() {
    }

    public static void main(String[] args) {
        pressureOfTheTable();
        pressureOfRuns();
        pressureOfOtherLevels();
        pressureOfOneFamily();
        rowsOfAllKeys();
        rowsThatRise();
        takeOfOneRow();
        takeOfAllKeys();
        takeEmptiesTheDraft();
        flushAheadByEntries();
        flushAheadByClears();
        flushAheadOfTheFamilyAlone();
        flushAheadComesFirst();
        levelsThatAreFree();
        levelsNextToSpans();
        levelsUponSpans();
        levelsAboveThatAreTaken();
        levelsUponWideSpans();
        placesAmongRuns();
        manyRuns();
        takeUnderPressure();
        takeIsOneWrite();
        takeByViews();
        takeOfOneKeyThatIsCleared();
        System.out.println("TakeTests");
        Check.end();
    }

    // ---- pressure

    private static void pressureOfTheTable() {
        Check.about("pressure of the table");
        for (int family = 0; family < 2; family++) {
            for (int kind = 0; kind < 4; kind++) {
                Stratalog x = new Stratalog();
                for (int i = 0; i <= 40; i++) {
                    int want = i < 24 ? 0 : i < 40 ? 1 : 2;
                    due("pressure with " + i, x.pressure(family), want);
                    if (i < 40) {
                        writeKind(x, family, kind);
                    }
                }
                int last = kind;
                int f = family;
                Check.throwsState("the 41st", () -> writeKind(x, f, last));
                due("pressure of the other family", x.pressure(1 - family), 0);
                x.flush(family);
                due("pressure once it is flushed", x.pressure(family), 0);
            }
        }
    }

    private static void writeKind(Stratalog x, int family, int kind) {
        switch (kind) {
            case 0 -> x.put(family, 5, 1);
            case 1 -> x.mark(family, 5);
            case 2 -> x.add(family, 5, 1);
            default -> x.clear(family, 5, 5);
        }
    }

    private static void pressureOfRuns() {
        Check.about("pressure of runs");
        for (int family = 0; family < 2; family++) {
            Stratalog x = new Stratalog();
            int[] want = {0, 0, 0, 0, 1, 1, 2};
            for (int runs = 0; runs <= 6; runs++) {
                due("pressure with " + runs + " runs", x.pressure(family), want[runs]);
                if (runs < 6) {
                    if (runs % 2 == 0) {
                        oneRun(x, family, 5);
                    } else {
                        clearRun(x, family, 5, 5);
                    }
                }
            }
            int f = family;
            for (int kind = 0; kind < 4; kind++) {
                int k = kind;
                Check.throwsState("kind " + kind, () -> writeKind(x, f, k));
            }
            due("the other family", x.put(1 - family, 5, 1), 7);
            due("taken in", takeKeys(x, family, 5), 0);
            due("pressure with 7 runs", x.pressure(family), 2);
            due("compact", x.compact(family), 0);
            due("pressure once it is compacted", x.pressure(family), 0);
            due("put", x.put(family, 5, 1), 9);
        }
    }

    private static void pressureOfOtherLevels() {
        Check.about("runs of other levels do not press");
        Stratalog x = new Stratalog();
        for (int key = 0; key < 64; key += 8) {
            due("taken in", takeKeys(x, 0, key), 3);
            due("taken in", takeKeys(x, 0, key), 2);
            due("taken in", takeKeys(x, 0, key), 1);
        }
        due("pressure with 24 runs", x.pressure(0), 0);
        Stratalog y = new Stratalog();
        for (int i = 0; i < 3; i++) {
            runOf(y, 0, 0, 22);
        }
        putMany(y, 0, 23);
        due("pressure with 3 runs of 69 entries and 23 in the table", y.pressure(0), 0);
        y.put(0, 0, 1);
        due("pressure with 24 in the table", y.pressure(0), 1);
        y.flush(0);
        due("pressure with 4 runs", y.pressure(0), 1);
        putMany(y, 0, 39);
        due("pressure with 4 runs and 39 in the table", y.pressure(0), 1);
        y.put(0, 0, 1);
        due("pressure with 4 runs and 40 in the table", y.pressure(0), 2);
        y.flush(0);
        due("pressure with 5 runs", y.pressure(0), 1);
        due("taken in", takeKeys(y, 0, 0), 0);
        due("pressure with 6 runs and an empty table", y.pressure(0), 2);
    }

    private static void pressureOfOneFamily() {
        Check.about("the pressure of one family alone");
        Stratalog x = new Stratalog();
        putMany(x, 1, 40);
        due("pressure", x.pressure(0), 0);
        due("the other one's", x.pressure(1), 2);
        due("put", x.put(0, 0, 1), 41);
        due("mark", x.mark(0, 0), 42);
        due("add", x.add(0, 0, 1), 43);
        due("clear", x.clear(0, 0, 0), 44);
        due("crash", x.crash(39), 39);
        due("pressure", x.pressure(1), 1);
        due("put", x.put(1, 0, 1), 40);
        due("pressure", x.pressure(1), 2);
    }

    // ---- rows

    private static void rowsOfAllKeys() {
        Check.about("rows of all keys");
        Stratalog x = new Stratalog();
        for (int key = 0; key < 64; key++) {
            due("row", x.row(key, key - 32), key + 1);
        }
        for (int key = 0; key < 65; key++) {
            int at = key;
            Check.throwsArgument("no row is left", () -> x.row(at, 1));
        }
        due("take", x.take(0), 3);
        dueRuns(x, 0, 3, new int[][] {{0, 63, 64}});
        dueValues(x, 0, 0, NONE, -32, -31);
        dueValues(x, 0, 62, NONE, 30, 31);
    }

    private static void rowsThatRise() {
        Check.about("a key above that of the last row");
        Stratalog x = new Stratalog();
        due("row", x.row(10, 1), 1);
        Check.throwsArgument("the same key", () -> x.row(10, 2));
        Check.throwsArgument("the key ahead", () -> x.row(9, 2));
        Check.throwsArgument("the key 0", () -> x.row(0, 2));
        due("the next key", x.row(11, 2), 2);
        Check.throwsArgument("the first one's key", () -> x.row(10, 2));
        due("the last key", x.row(63, 3), 3);
        Check.throwsArgument("behind the last key", () -> x.row(64, 3));
        Check.throwsArgument("the last key again", () -> x.row(63, 3));
        due("take", x.take(1), 3);
        dueRun(x, 1, 3, 0, new int[] {10, 63, 3, 1});
        dueValues(x, 1, 9, NONE, NO_VALUE, 1, 2, NO_VALUE);
    }

    private static void takeOfOneRow() {
        Check.about("one row");
        for (int key : new int[] {0, 31, 63}) {
            Stratalog x = new Stratalog();
            x.row(key, -9999);
            due("take", x.take(0), 3);
            dueRun(x, 0, 3, 0, new int[] {key, key, 1, 1});
            due("get", x.get(0, key, NONE), -9999);
            due("table", x.table(0), 0);
            due("unsure", x.unsure(), 0);
        }
    }

    private static void takeOfAllKeys() {
        Check.about("one run, be it as great as it is");
        Stratalog x = new Stratalog();
        due("the level 3", takeOf(x, 0, 0, 63, 1), 3);
        due("the level 2", takeOf(x, 0, 0, 63, 2), 2);
        due("the level 1", takeOf(x, 0, 0, 63, 3), 1);
        due("the level 0", takeOf(x, 0, 0, 63, 4), 0);
        for (int level = 0; level < 4; level++) {
            dueRuns(x, 0, level, new int[][] {{0, 63, 64}});
            due("number", x.run(0, level, 0, 3), 4 - level);
        }
        due("get", x.get(0, 0, NONE), 4);
        due("get", x.get(0, 63, NONE), 4);
    }

    private static void takeEmptiesTheDraft() {
        Check.about("the draft is empty then");
        Stratalog x = new Stratalog();
        Check.throwsState("take", () -> x.take(0));
        x.row(63, 1);
        x.take(0);
        Check.throwsState("take again", () -> x.take(0));
        Check.throwsState("take of the other family", () -> x.take(1));
        due("row at the key 0", x.row(0, 1), 1);
        due("take", x.take(1), 3);
        dueRuns(x, 1, 3, new int[][] {{0, 0, 1}});
        due("number", x.number(), 2);
    }

    // ---- the flush ahead

    /** Rows at 10 and 20 upon something in the table: whether it was flushed ahead. */
    private static void dueFlushAhead(String what, boolean isFlushed, Script writing) {
        Check.about("taking in upon " + what);
        Stratalog x = new Stratalog();
        writing.on(x);
        int before = x.table(0);
        int number = x.number();
        due("take", takeKeys(x, 0, 10, 20), isFlushed ? 0 : 3);
        due("table", x.table(0), isFlushed ? 0 : before);
        due("runs of the level 0", x.level(0, 0, 0), isFlushed ? 2 : 0);
        due("runs of the level 3", x.level(0, 3, 0), isFlushed ? 0 : 1);
        due("unsure", x.unsure(), 0);
        due("number", x.number(), number + 1);
        dueValues(x, 0, 10, NONE, 1);
        dueValues(x, 0, 20, NONE, 1);
    }

    private static void flushAheadByEntries() {
        dueFlushAhead("nothing", false, x -> { });
        dueFlushAhead("the key ahead", false, x -> x.put(0, 9, 5));
        dueFlushAhead("its first key", true, x -> x.put(0, 10, 5));
        dueFlushAhead("a key between", true, x -> x.put(0, 11, 5));
        dueFlushAhead("its last key", true, x -> x.put(0, 20, 5));
        dueFlushAhead("the key behind", false, x -> x.put(0, 21, 5));
        dueFlushAhead("a MARK", true, x -> x.mark(0, 15));
        dueFlushAhead("an ADD", true, x -> x.add(0, 15, 5));
        dueFlushAhead("the keys around", false, x -> {
            x.put(0, 0, 5);
            x.put(0, 9, 5);
            x.put(0, 21, 5);
            x.put(0, 63, 5);
        });
        dueFlushAhead("one of several", true, x -> { x.put(0, 9, 5); x.put(0, 20, 5); x.put(0, 21, 5); });
    }

    private static void flushAheadByClears() {
        int[][] ranges = {{0, 9}, {0, 10}, {9, 9}, {9, 10}, {10, 10}, {11, 19}, {15, 15}, {20, 20}, {20, 63}, {21, 21},
            {21, 63}, {0, 63}};
        boolean[] areFlushed = {false, true, false, true, true, true, true, true, true, false, false, true};
        for (int i = 0; i < ranges.length; i++) {
            int from = ranges[i][0];
            int to = ranges[i][1];
            dueFlushAhead("a CLEAR of " + from + " to " + to, areFlushed[i], x -> x.clear(0, from, to));
        }
        dueFlushAhead("CLEARs around", false, x -> { x.clear(0, 0, 9); x.clear(0, 21, 63); });
    }

    private static void flushAheadOfTheFamilyAlone() {
        Check.about("the table of the other family");
        Stratalog x = new Stratalog();
        x.put(1, 15, 5);
        x.clear(1, 0, 63);
        due("take", takeKeys(x, 0, 10, 20), 3);
        due("the other table", x.table(1), 2);
        due("runs of the other family", x.level(1, 0, 0), 0);
        x.put(0, 15, 5);
        due("take", takeKeys(x, 0, 10, 20), 0);
        due("the other table", x.table(1), 2);
        due("runs", x.level(0, 0, 0), 2);
    }

    private static void flushAheadComesFirst() {
        Check.about("the flush is ahead of it");
        Stratalog x = new Stratalog();
        x.put(0, 15, 5);
        x.put(0, 63, 5);
        due("take", takeKeys(x, 0, 15), 0);
        dueRun(x, 0, 0, 0, new int[] {15, 15, 1, 3});
        dueRun(x, 0, 0, 1, new int[] {15, 63, 2, 2});
        due("get", x.get(0, 15, NONE), 1);
        due("crash", x.crash(0), 3);
        due("get", x.get(0, 15, NONE), 1);
        due("get", x.get(0, 63, NONE), 5);
    }

    // ---- the level

    private static void levelsThatAreFree() {
        Check.about("the lowest level, 3 first");
        for (int family = 0; family < 2; family++) {
            Stratalog x = new Stratalog();
            int[] levels = {3, 2, 1, 0, 0, 0};
            for (int level : levels) {
                due("take", takeKeys(x, family, 5, 9), level);
            }
            due("runs of the level 0", x.level(family, 0, 0), 3);
            due("take beside", takeKeys(x, family, 10), 3);
            due("take of the other family", takeKeys(x, 1 - family, 5, 9), 3);
        }
    }

    /** Takes 10 to 20 into a level, by way of other runs over the same keys below it. */
    private static Stratalog takenInto(int level) {
        Stratalog x = new Stratalog();
        for (int below = 3; below >= level; below--) {
            due("taken into the level " + below, takeKeys(x, 0, 10, 20), below);
        }
        return x;
    }

    private static void levelsNextToSpans() {
        for (int level = 0; level < 4; level++) {
            Check.about("next to a run of the level " + level);
            Stratalog x = takenInto(level);
            due("ahead", takeKeys(x, 0, 0, 9), 3);
            due("behind", takeKeys(x, 0, 21, 63), 3);
            dueRuns(x, 0, 3, new int[][] {{0, 9, 2}, {10, 20, 2}, {21, 63, 2}});
        }
    }

    private static void levelsUponSpans() {
        int[][] keys = {{10, 10}, {0, 10}, {20, 20}, {20, 63}, {15, 15}, {11, 19}, {0, 63}};
        for (int level = 0; level < 4; level++) {
            for (int[] each : keys) {
                Check.about("upon a run of the level " + level + ", from " + each[0] + " to " + each[1]);
                Stratalog x = takenInto(level);
                int want = Math.max(0, level - 1);
                int got = each[0] == each[1] ? takeKeys(x, 0, each[0]) : takeKeys(x, 0, each[0], each[1]);
                due("take", got, want);
                due("place in the level", x.run(0, want, 0, 0), each[0]);
            }
        }
    }

    private static void levelsAboveThatAreTaken() {
        Check.about("no run of that or a level above it");
        Stratalog x = new Stratalog();
        oneRun(x, 0, 5);
        due("upon the level 0 alone", takeKeys(x, 0, 5), 0);
        due("runs of the level 3", x.level(0, 3, 0), 0);
        due("beside it", takeKeys(x, 0, 6), 3);
        due("upon both", takeKeys(x, 0, 5, 6), 0);
        due("upon all three", takeKeys(x, 0, 5), 0);
        due("compact", x.compact(0), 0);
        due("runs of the level 1", x.level(0, 1, 0), 1);
        dueRun(x, 0, 1, 0, new int[] {5, 6, 2, 5});
        due("upon the level 1 and the level 3", takeKeys(x, 0, 6), 0);
        due("upon the level 1 alone", takeKeys(x, 0, 4, 5), 0);
        due("beside all", takeKeys(x, 0, 0, 3), 3);
        Stratalog y = new Stratalog();
        clearRun(y, 0, 5, 9);
        due("upon a CLEAR alone", takeKeys(y, 0, 9), 0);
        due("next to a CLEAR", takeKeys(y, 0, 10), 3);
    }

    private static void levelsUponWideSpans() {
        Check.about("spans that are wider than their entries");
        Stratalog x = new Stratalog();
        takeKeys(x, 0, 10, 20);
        due("within the gap of the run", takeKeys(x, 0, 15), 2);
        due("around it, in a gap of its own", takeKeys(x, 0, 9, 21), 1);
        due("far from all", takeKeys(x, 0, 22, 63), 3);
        due("between", takeKeys(x, 0, 0, 8), 3);
    }

    private static void placesAmongRuns() {
        Check.about("runs are ordered by their spans");
        Stratalog x = new Stratalog();
        takeKeys(x, 0, 30, 40);
        takeKeys(x, 0, 63);
        takeKeys(x, 0, 0);
        takeKeys(x, 0, 41, 62);
        takeKeys(x, 0, 1, 29);
        dueRuns(x, 0, 3, new int[][] {{0, 0, 1}, {1, 29, 2}, {30, 40, 2}, {41, 62, 2}, {63, 63, 1}});
        int[] numbers = {3, 5, 1, 4, 2};
        for (int place = 0; place < numbers.length; place++) {
            due("number of the place " + place, x.run(0, 3, place, 3), numbers[place]);
        }
    }

    private static void manyRuns() {
        Check.about("many runs of the level 0");
        Stratalog x = new Stratalog();
        for (int i = 0; i < 60; i++) {
            x.row(5, i);
            due("take", x.take(0), Math.max(0, 3 - i));
        }
        dueLevel(x, 0, 0, new int[] {57, 57, 0, 1425});
        for (int place = 0; place < 57; place++) {
            due("number of the place " + place, x.run(0, 0, place, 3), 60 - place);
        }
        Check.throwsIndex("the place behind", () -> x.run(0, 0, 57, 3));
        due("get", x.get(0, 5, NONE), 59);
        due("looked", x.looked(), 60);
        due("pressure", x.pressure(0), 2);
        due("compact", x.compact(0), 0);
        dueRun(x, 0, 1, 0, new int[] {5, 5, 1, 60});
        due("whole", x.whole(0), 2);
        due("get", x.get(0, 5, NONE), 59);
    }

    private static void takeUnderPressure() {
        Check.about("rows are taken in under pressure");
        Stratalog x = new Stratalog();
        putMany(x, 0, 40);
        due("take", takeKeys(x, 0, 50, 63), 3);
        due("table", x.table(0), 40);
        due("take with a flush", takeKeys(x, 0, 5), 0);
        due("table", x.table(0), 0);
        due("number", x.number(), 42);
    }

    private static void takeIsOneWrite() {
        Check.about("one number, and no record");
        Stratalog x = new Stratalog();
        x.put(1, 1, 1);
        due("take", takeOf(x, 0, 0, 9, 1), 3);
        due("number", x.number(), 2);
        due("unsure", x.unsure(), 0);
        due("put", x.put(1, 1, 1), 3);
        due("unsure", x.unsure(), 1);
        due("crash", x.crash(0), 2);
        due("get", x.get(0, 9, NONE), 1);
        due("the greatest number", x.run(0, 3, 0, 3), 2);
    }

    private static void takeByViews() {
        Check.about("rows and views");
        Stratalog x = new Stratalog();
        takeKeys(x, 0, 5, 6);
        x.snapshot();
        x.begin();
        x.row(5, 7);
        x.row(7, 7);
        due("take", x.take(0), 2);
        x.snapshot();
        x.put(0, 5, 8);
        dueValues(x, 0, 5, 0, 1, 1, NO_VALUE);
        dueValues(x, 0, 5, 1, 7, 1, 7);
        dueValues(x, 0, 5, NONE, 8, 1, 7);
        due("read", x.read(0, 0, 5), 1);
        due("read", x.read(0, 0, 7), NO_VALUE);
        due("next", x.next(0, 7, true, 0), NONE);
        due("next", x.next(0, 7, true, 1), 7);
        x.flush(0);
        due("whole", x.whole(0), 0);
        dueValues(x, 0, 5, 0, 1, 1, NO_VALUE);
        dueValues(x, 0, 5, 1, 7, 1, 7);
        x.release(0);
        due("the transaction still pins", x.whole(0), 0);
        due("commit", x.commit(0), CONFLICT);
        due("whole", x.whole(0), 1);
    }

    private static void takeOfOneKeyThatIsCleared() {
        Check.about("one row, and a CLEAR of its key alone");
        for (int key = 0; key < 64; key += 21) {
            Stratalog x = new Stratalog();
            x.clear(0, key, key);
            due("row", x.row(key, 7), 1);
            due("take", x.take(0), 0);
            due("the family is flushed ahead", x.table(0), 0);
            dueRun(x, 0, 0, 0, new int[] {key, key, 1, 2});
            dueRun(x, 0, 0, 1, new int[] {key, key, 0, 1});
            due("get", x.get(0, key, NONE), 7);
        }
    }
}
