/** The edges of merging, of what it leaves, of how that is cut into runs, and of pins(). */
public final class MergeTests extends TestBase {
    private MergeTests() {
    }

    public static void main(String[] args) {
        stripesOfEntries();
        stripesOfClears();
        stripesOfSeveral();
        stripesOfSixty();
        clearsThatAreNotMerged();
        clearsUponClears();
        foldsUponWhatIsBelow();
        foldsInEachStripe();
        foldsWhatIsNotCleared();
        marksAtTheEndsOfSpansBelow();
        marksUponTheOtherFamily();
        marksUponLevels();
        marksUponTheLevelItGoesInto();
        marksBesideRunsAbove();
        clearsBesideRunsAbove();
        leastEntriesInTurn();
        clearsAtTheEndsOfSpansBelow();
        clearsUponEntries();
        clearsUponDroppedMarks();
        cutsByCounts();
        cutsOfOneKey();
        cutsOfTheLevelOne();
        spansStay();
        clearsInParts();
        partsAreApart();
        partsAtCuts();
        manyParts();
        clearsWithoutEntries();
        wholeOfNothing();
        wholeLess();
        pinsOfNothing();
        pinsByNumbers();
        pinsOfBothFamilies();
        pinsBesideOthers();
        pinsInEachLevel();
        cutsBesideOneKey();
        System.out.println("MergeTests");
        Check.end();
    }

    // ---- stripes

    /** Pins the number by a snapshot or by a transaction. */
    private static void pin(Stratalog x, boolean isSnapshot) {
        if (isSnapshot) {
            x.snapshot();
        } else {
            x.begin();
        }
    }

    private static void unpin(Stratalog x, boolean isSnapshot, int number) {
        if (isSnapshot) {
            x.release(number);
        } else {
            x.commit(number);
        }
    }

    /** Two entries of a key with the numbers 1 and 3, and one that pins a number from 0 to 4. */
    private static void stripesOfEntries() {
        for (int pinned = 0; pinned <= 4; pinned++) {
            for (boolean isSnapshot : new boolean[] {true, false}) {
                Check.about("1 and 3 with " + (isSnapshot ? "a snapshot of " : "a transaction of ") + pinned);
                Stratalog x = new Stratalog();
                for (int number = 0; number <= 4; number++) {
                    if (number > 0) {
                        x.put(number == 4 ? 1 : 0, number == 2 ? 9 : 5, number);
                    }
                    if (number == pinned) {
                        pin(x, isSnapshot);
                    }
                }
                x.flush(0);
                boolean isParted = pinned == 1 || pinned == 2;
                if (isSnapshot) {
                    due("pins", x.pins(0), isParted ? 1 : 0);
                }
                due("whole", x.whole(0), isParted ? 0 : 1);
                due("now", x.get(0, 5, NONE), 3);
                unpin(x, isSnapshot, 0);
                due("whole, when it has ended", x.whole(0), isParted ? 1 : 0);
                due("now", x.get(0, 5, NONE), 3);
            }
        }
    }

    /** An entry with the number 1, a CLEAR with the number 3, and one that pins a number from 0 to 4. */
    private static void stripesOfClears() {
        for (int pinned = 0; pinned <= 4; pinned++) {
            for (boolean isSnapshot : new boolean[] {true, false}) {
                Check.about("PUT 1 and CLEAR 3 with " + (isSnapshot ? "a snapshot of " : "a transaction of ") + pinned);
                Stratalog x = new Stratalog();
                for (int number = 0; number <= 4; number++) {
                    switch (number) {
                        case 1 -> x.put(0, 5, 1);
                        case 2 -> x.put(0, 9, 1);
                        case 3 -> x.clear(0, 5, 5);
                        case 4 -> x.put(1, 5, 1);
                        default -> { }
                    }
                    if (number == pinned) {
                        pin(x, isSnapshot);
                    }
                }
                x.flush(0);
                boolean isParted = pinned == 1 || pinned == 2;
                due("whole", x.whole(0), isParted ? 0 : 1);
                dueLevel(x, 0, 3, isParted ? new int[] {1, 2, 1, 0} : new int[] {1, 1, 0, 0});
                due("now", x.get(0, 5, NONE), NO_VALUE);
                if (isSnapshot && isParted) {
                    due("then", x.get(0, 5, 0), 1);
                }
                unpin(x, isSnapshot, 0);
                due("whole, when it has ended", x.whole(0), isParted ? 1 : 0);
                dueLevel(x, 0, 3, new int[] {1, 1, 0, 0});
            }
        }
    }

    private static void stripesOfSeveral() {
        Check.about("several that pin");
        Stratalog x = new Stratalog();
        x.put(0, 5, 1);
        x.snapshot();
        x.snapshot();
        x.begin();
        x.put(0, 5, 2);
        x.begin();
        x.put(0, 5, 3);
        x.put(0, 5, 4);
        x.snapshot();
        x.flush(0);
        due("three stripes of four entries", x.whole(0), 1);
        x.release(0);
        due("one of three has ended", x.whole(0), 0);
        x.commit(0);
        due("two of three have ended", x.whole(0), 0);
        x.release(1);
        due("all three have ended", x.whole(0), 1);
        due("by the transaction", x.read(1, 0, 5), 2);
        x.crash(0);
        due("a crash ends what is left", x.whole(0), 1);
        due("now", x.get(0, 5, NONE), 4);
        Stratalog y = new Stratalog();
        for (int i = 0; i < 30; i++) {
            y.put(0, 5, i);
            y.snapshot();
        }
        y.put(0, 5, 30);
        y.flush(0);
        due("thirty snapshots", y.whole(0), 0);
        dueRuns(y, 0, 3, new int[][] {{5, 5, 31}});
        for (int s = 0; s < 30; s++) {
            due("by the snapshot " + s, y.get(0, 5, s), s);
        }
    }

    private static void stripesOfSixty() {
        Check.about("30 snapshots and 30 transactions");
        Stratalog x = new Stratalog();
        for (int i = 0; i < 30; i++) {
            x.put(0, 5, 2 * i);
            due("snapshot", x.snapshot(), i);
            x.put(0, 5, 2 * i + 1);
            due("begin", x.begin(), i);
            if (i == 15) {
                x.flush(0);
            }
        }
        x.put(0, 5, 60);
        x.flush(0);
        due("whole of 61 entries", x.whole(0), 0);
        dueRuns(x, 0, 3, new int[][] {{5, 5, 61}});
        for (int i = 0; i < 30; i++) {
            due("by the snapshot " + i, x.get(0, 5, i), 2 * i);
            due("by the transaction " + i, x.read(i, 0, 5), 2 * i + 1);
        }
        due("pins of the last one", x.pins(29), 1);
        due("commit of the last one", x.commit(29), CONFLICT);
        due("whole without the last transaction", x.whole(0), 1);
        x.release(29);
        due("whole without the last snapshot", x.whole(0), 1);
        x.release(0);
        due("commit of the first one", x.commit(0), CONFLICT);
        due("whole without the first ones", x.whole(0), 2);
        x.crash(0);
        due("whole without any", x.whole(0), 56);
    }

    private static void clearsThatAreNotMerged() {
        Check.about("a CLEAR of what is not merged drops nothing");
        Stratalog x = new Stratalog();
        runOf(x, 0, 0, 5);
        x.clear(0, 0, 63);
        due("whole with a CLEAR in the table", x.whole(0), 0);
        dueLevel(x, 0, 3, new int[] {1, 6, 0, 0});
        x.clear(1, 0, 63);
        x.flush(1);
        due("whole with a CLEAR in the other family", x.whole(0), 0);
        due("whole of the other family", x.whole(1), 0);
        dueLevel(x, 1, 3, new int[] {0, 0, 0, 0});
        due("get", x.get(0, 0, NONE), NO_VALUE);
        x.flush(0);
        due("whole with the CLEAR", x.whole(0), 6);
    }

    private static void clearsUponClears() {
        Check.about("CLEARs are not merged with one another");
        Stratalog x = new Stratalog();
        x.put(0, 5, 1);
        x.snapshot();
        x.clear(0, 5, 5);
        x.snapshot();
        x.clear(0, 4, 6);
        x.flush(0);
        due("whole", x.whole(0), 0);
        dueLevel(x, 0, 3, new int[] {1, 1, 2, 0});
        x.release(1);
        due("whole in one stripe", x.whole(0), 0);
        dueLevel(x, 0, 3, new int[] {1, 1, 2, 0});
        dueRun(x, 0, 3, 0, new int[] {4, 6, 1, 3});
        x.release(0);
        due("whole without snapshots", x.whole(0), 1);
        dueLevel(x, 0, 3, new int[] {0, 0, 0, 0});
        due("number", x.crash(0), 3);
    }

    // ---- folding

    private static final int MARK = 20000, ADD = 30000;

    /** Writes at the key 0: a value, MARK, or ADD and a number. */
    private static void writeAll(Stratalog x, int... writes) {
        for (int write : writes) {
            if (write == MARK) {
                x.mark(0, 0);
            } else if (write > MARK) {
                x.add(0, 0, write - ADD);
            } else {
                x.put(0, 0, write);
            }
        }
    }

    /** What is written at the key 0, upon the value 1 below, becomes one entry with the greatest number. */
    private static void dueFold(int want, int... writes) {
        Stratalog x = new Stratalog();
        footing(x, 0);
        oneRun(x, 0, 30);
        oneRun(x, 0, 31);
        oneRun(x, 0, 32);
        writeAll(x, writes);
        due("get ahead", x.get(0, 0, NONE), want);
        due("flush", x.flush(0), writes.length);
        due("compact", x.compact(0), 0);
        dueLevel(x, 0, 1, new int[] {1, 4, 0, 33});
        dueRun(x, 0, 1, 0, new int[] {0, 32, 4, x.number()});
        due("get", x.get(0, 0, NONE), want);
        x.add(0, 0, 5);
        due("get with one ADD more", x.get(0, 0, NONE), want == NO_VALUE ? 5 : want + 5);
        x.flush(0);
        due("whole", x.whole(0), 4);
        due("get", x.get(0, 0, NONE), want == NO_VALUE ? 5 : want + 5);
    }

    private static void foldsUponWhatIsBelow() {
        Check.about("folded to one entry");
        dueFold(8, 5, ADD + 1, ADD + 2);
        dueFold(0, MARK, ADD + 3, ADD - 3);
        dueFold(7, MARK, ADD + 7);
        dueFold(NO_VALUE, MARK);
        dueFold(NO_VALUE, MARK, MARK);
        dueFold(8, ADD + 3, ADD + 4);
        dueFold(1, ADD);
        dueFold(-9998, ADD - 9999);
        dueFold(NO_VALUE, 5, MARK);
        dueFold(2, 5, MARK, ADD + 2);
        dueFold(3, ADD + 5, 3);
        dueFold(NO_VALUE, ADD + 5, MARK);
        dueFold(4, MARK, 4);
        dueFold(6, 4, 6);
        dueFold(0, 4, 0);
        dueFold(7, 4, ADD + 1, 6, ADD + 1);
        dueFold(1, ADD + 1, MARK, ADD + 1, MARK, ADD + 1);
    }

    private static void foldsInEachStripe() {
        Check.about("folded in each stripe");
        Stratalog x = new Stratalog();
        footing(x, 0);
        writeAll(x, ADD + 1, ADD + 2);
        x.snapshot();
        writeAll(x, MARK, ADD + 5);
        x.snapshot();
        writeAll(x, ADD + 7, ADD + 8);
        x.snapshot();
        writeAll(x, 3, MARK);
        x.flush(0);
        for (int i = 0; i < 3; i++) {
            oneRun(x, 0, 30);
        }
        due("compact", x.compact(0), 0);
        dueLevel(x, 0, 1, new int[] {1, 5, 0, 41});
        int[] want = {4, 5, 20, NO_VALUE};
        for (int s = 0; s < 3; s++) {
            due("by the snapshot " + s, x.get(0, 0, s), want[s]);
        }
        due("now", x.get(0, 0, NONE), NO_VALUE);
        due("whole", x.whole(0), 3);
        for (int s = 0; s < 3; s++) {
            due("by the snapshot " + s, x.get(0, 0, s), want[s]);
        }
        x.release(1);
        due("whole without the second one", x.whole(0), 1);
        due("by the third one", x.get(0, 0, 2), 20);
    }

    private static void foldsWhatIsNotCleared() {
        Check.about("what is cleared is dropped ahead of folding");
        Stratalog x = new Stratalog();
        x.put(0, 5, 100);
        x.put(0, 6, 100);
        x.add(0, 7, 100);
        x.clear(0, 5, 7);
        x.add(0, 5, 1);
        x.mark(0, 6);
        x.add(0, 6, 2);
        x.add(0, 7, 3);
        x.flush(0);
        dueValues(x, 0, 5, NONE, 1, 2, 3);
        due("whole", x.whole(0), 4);
        dueLevel(x, 0, 3, new int[] {1, 3, 0, 0});
        dueValues(x, 0, 5, NONE, 1, 2, 3);
        Stratalog y = new Stratalog();
        y.put(0, 5, 100);
        y.snapshot();
        y.add(0, 5, 10);
        y.clear(0, 5, 5);
        y.add(0, 5, 1);
        y.flush(0);
        due("whole in two stripes", y.whole(0), 1);
        dueLevel(y, 0, 3, new int[] {1, 2, 1, 0});
        due("now", y.get(0, 5, NONE), 1);
        due("then", y.get(0, 5, 0), 100);
        y.release(0);
        due("whole in one stripe", y.whole(0), 1);
        due("now", y.get(0, 5, NONE), 1);
    }

    // ---- the entry with the least number

    /** Merges marks into the level 1 and tells how many of them are left. */
    private static int marksLeft(Stratalog x, int... keys) {
        for (int key : keys) {
            markRun(x, 0, key);
        }
        while (x.level(0, 0, 0) < 4) {
            markRun(x, 0, keys[0]);
        }
        due("compact", x.compact(0), 0);
        return x.level(0, 1, 1);
    }

    private static void marksAtTheEndsOfSpansBelow() {
        Check.about("a key in the span of a run below");
        int[] keys = {9, 10, 15, 20, 21};
        int[] left = {0, 1, 1, 1, 0};
        for (int i = 0; i < keys.length; i++) {
            Stratalog x = new Stratalog();
            due("taken in", takeKeys(x, 0, 10, 20), 3);
            due("MARKs left of " + keys[i], marksLeft(x, keys[i]), left[i]);
            due("runs", x.level(0, 1, 0), left[i]);
        }
        Stratalog ends = new Stratalog();
        takeKeys(ends, 0, 0);
        takeKeys(ends, 0, 63);
        due("MARKs left of all", marksLeft(ends, 0, 1, 62, 63), 2);
        dueRun(ends, 0, 1, 0, new int[] {0, 63, 2, 6});
        Stratalog nothing = new Stratalog();
        due("MARKs left upon nothing", marksLeft(nothing, 0, 31, 63), 0);
        Stratalog two = new Stratalog();
        takeKeys(two, 0, 10, 12);
        due("taken in", takeKeys(two, 0, 12, 14), 2);
        due("MARKs left upon two levels", marksLeft(two, 9, 10, 14, 15), 2);
    }

    private static void marksUponTheOtherFamily() {
        Check.about("the other family is not below");
        Stratalog x = new Stratalog();
        takeKeys(x, 1, 0, 63);
        due("MARKs left", marksLeft(x, 5, 6), 0);
    }

    private static void marksUponLevels() {
        Check.about("runs above, and beside it, are not below");
        Stratalog x = new Stratalog();
        takeKeys(x, 0, 0, 63);
        for (int i = 0; i < 5; i++) {
            markRun(x, 0, 5);
        }
        x.put(0, 5, 1);
        due("whole of MARKs", x.whole(0), 5);
        dueRuns(x, 0, 3, new int[][] {{0, 63, 2}});
        due("the table stays", x.table(0), 1);
    }

    /** MARKs go from the level 1 upon PUTs of the level 2, with nothing in the level 3. */
    private static void marksUponTheLevelItGoesInto() {
        Check.about("MARKs upon what they are merged with");
        Stratalog x = new Stratalog();
        for (int i = 0; i < 4; i++) {
            runOf(x, 0, 4 * i, 4 * i + 3);
        }
        due("compact of the level 0", x.compact(0), 0);
        due("compact of the level 1", x.compact(0), 1);
        dueRuns(x, 0, 2, new int[][] {{0, 7, 8}});
        markRun(x, 0, 0, 1, 2, 3, 4, 5);
        runOf(x, 0, 6, 7);
        oneRun(x, 0, 6);
        oneRun(x, 0, 7);
        due("compact of the level 0", x.compact(0), 0);
        dueRuns(x, 0, 1, new int[][] {{0, 7, 8}, {8, 15, 8}});
        due("compact of the second run", x.compact(0), 1);
        dueRuns(x, 0, 1, new int[][] {{0, 7, 8}});
        for (int i = 0; i < 4; i++) {
            oneRun(x, 0, 20 + i);
        }
        due("compact of the level 0", x.compact(0), 0);
        dueRuns(x, 0, 1, new int[][] {{0, 7, 8}, {20, 23, 4}});
        due("compact of the last run", x.compact(0), 1);
        for (int i = 0; i < 4; i++) {
            oneRun(x, 0, 20 + i);
        }
        due("compact of the level 0", x.compact(0), 0);
        due("compact of the first run", x.compact(0), 1);
        dueRuns(x, 0, 2, new int[][] {{0, 7, 2}, {8, 15, 8}, {20, 23, 4}});
        dueValues(x, 0, 4, NONE, NO_VALUE, NO_VALUE, 1, 1, 1);
    }

    /**
     * A run of the level 2 with the key 12 erased in it, as a snapshot keeps that; the level 1 has a run of 0 to 10,
     * which is the next one to be taken, and one of 11 to 17, which is not; the level 3 has nothing.
     */
    private static Stratalog besideRunsAbove(Script erasing) {
        Stratalog x = new Stratalog();
        x.put(0, 12, 1);
        x.snapshot();
        erasing.on(x);
        for (int key : new int[] {5, 6, 7, 8, 9, 13}) {
            x.put(0, key, 1);
        }
        x.flush(0);
        runOf(x, 0, 14, 18);
        oneRun(x, 0, 16);
        oneRun(x, 0, 17);
        due("compact of the level 0", x.compact(0), 0);
        due("compact of the level 1", x.compact(0), 1);
        runOf(x, 0, 0, 7);
        oneRun(x, 0, 11);
        oneRun(x, 0, 11);
        oneRun(x, 0, 18);
        due("compact of the level 0", x.compact(0), 0);
        dueRuns(x, 0, 1, new int[][] {{0, 10, 8}, {11, 18, 6}});
        x.release(0);
        due("compact of the level 1", x.compact(0), 1);
        dueRuns(x, 0, 1, new int[][] {{11, 18, 6}});
        return x;
    }

    private static void marksBesideRunsAbove() {
        Check.about("a run above is not below");
        Stratalog x = besideRunsAbove(y -> y.mark(0, 12));
        dueRuns(x, 0, 2, new int[][] {{0, 7, 8}, {8, 13, 3}});
        due("get", x.get(0, 12, NONE), NO_VALUE);
    }

    /** How many entries are left of writes at the key 0 with a snapshot behind each, nothing being below. */
    private static int leftOf(int... writes) {
        Stratalog x = new Stratalog();
        for (int write : writes) {
            writeAll(x, write);
            x.snapshot();
        }
        x.flush(0);
        int[] values = new int[writes.length];
        for (int s = 0; s < writes.length; s++) {
            values[s] = x.get(0, 0, s);
        }
        int less = x.whole(0);
        for (int s = 0; s < writes.length; s++) {
            due("by the snapshot " + s, x.get(0, 0, s), values[s]);
        }
        due("runs", x.level(0, 3, 0), less < writes.length ? 1 : 0);
        return writes.length - less;
    }

    private static void leastEntriesInTurn() {
        Check.about("the next one is the least then");
        due("MARK", leftOf(MARK), 0);
        due("MARK, MARK", leftOf(MARK, MARK), 0);
        due("MARK, MARK, MARK, MARK", leftOf(MARK, MARK, MARK, MARK), 0);
        due("MARK, MARK, PUT", leftOf(MARK, MARK, 1), 1);
        due("MARK, ADD", leftOf(MARK, ADD + 1), 1);
        due("MARK, ADD, MARK", leftOf(MARK, ADD + 1, MARK), 2);
        due("MARK, PUT, MARK, MARK", leftOf(MARK, 1, MARK, MARK), 3);
        due("PUT, MARK", leftOf(1, MARK), 2);
        due("ADD, MARK", leftOf(ADD + 1, MARK), 2);
        due("ADD, ADD", leftOf(ADD + 1, ADD + 1), 2);
        due("PUT, ADD, MARK, ADD", leftOf(1, ADD + 1, MARK, ADD + 1), 4);
    }

    // ---- which CLEARs are left

    private static int clearsLeft(Stratalog x, int from, int to) {
        clearRun(x, 0, from, to);
        while (x.level(0, 0, 0) < 4) {
            oneRun(x, 0, 40);
        }
        due("compact", x.compact(0), 0);
        return x.level(0, 1, 2);
    }

    private static void clearsAtTheEndsOfSpansBelow() {
        Check.about("a CLEAR and the span of a run below");
        int[][] ranges = {{0, 9}, {0, 10}, {9, 9}, {10, 10}, {12, 18}, {20, 20}, {20, 30}, {21, 21}, {21, 30},
            {0, 63}};
        int[] left = {0, 1, 0, 1, 1, 1, 1, 0, 0, 1};
        for (int i = 0; i < ranges.length; i++) {
            Stratalog x = new Stratalog();
            due("taken in", takeKeys(x, 0, 10, 20), 3);
            String range = ranges[i][0] + " to " + ranges[i][1];
            due("CLEARs left of " + range, clearsLeft(x, ranges[i][0], ranges[i][1]), left[i]);
        }
        Stratalog two = new Stratalog();
        takeKeys(two, 0, 10, 12);
        due("taken in", takeKeys(two, 0, 12, 14), 2);
        due("a CLEAR upon the level 2 alone", clearsLeft(two, 14, 30), 1);
        Stratalog other = new Stratalog();
        takeKeys(other, 1, 0, 63);
        due("a CLEAR upon the other family", clearsLeft(other, 0, 63), 0);
    }

    /** A PUT at the key 10 that a snapshot keeps, and a CLEAR above it. */
    private static void clearsUponEntries() {
        Check.about("an entry that is left with a key of the range and a lower number");
        int[][] ranges = {{0, 9}, {0, 10}, {10, 10}, {10, 63}, {11, 63}, {0, 63}};
        int[] left = {0, 1, 1, 1, 0, 1};
        for (int i = 0; i < ranges.length; i++) {
            Stratalog x = new Stratalog();
            x.put(0, 10, 1);
            x.snapshot();
            x.clear(0, ranges[i][0], ranges[i][1]);
            x.put(0, 9, 1);
            x.put(0, 11, 1);
            x.flush(0);
            due("whole", x.whole(0), 0);
            due("CLEARs left of " + ranges[i][0] + " to " + ranges[i][1], x.level(0, 3, 2), left[i]);
            due("now", x.get(0, 10, NONE), left[i] == 1 ? NO_VALUE : 1);
            due("then", x.get(0, 10, 0), 1);
        }
        Stratalog y = new Stratalog();
        y.clear(0, 10, 10);
        y.put(0, 10, 1);
        y.snapshot();
        y.flush(0);
        due("whole of an entry above the CLEAR", y.whole(0), 0);
        dueLevel(y, 0, 3, new int[] {1, 1, 0, 0});
    }

    private static void clearsBesideRunsAbove() {
        Check.about("a run above is not below a CLEAR");
        Stratalog x = besideRunsAbove(y -> { y.clear(0, 12, 12); y.put(0, 10, 1); });
        dueRuns(x, 0, 2, new int[][] {{0, 7, 8}, {8, 13, 4}});
        due("CLEARs", x.level(0, 2, 2), 0);
        due("get", x.get(0, 12, NONE), NO_VALUE);
    }

    private static void clearsUponDroppedMarks() {
        Check.about("an entry that is dropped keeps no CLEAR");
        Stratalog x = new Stratalog();
        x.mark(0, 5);
        x.snapshot();
        x.clear(0, 5, 5);
        x.flush(0);
        due("whole", x.whole(0), 1);
        dueLevel(x, 0, 3, new int[] {0, 0, 0, 0});
        Stratalog y = new Stratalog();
        y.put(0, 5, 1);
        y.clear(0, 0, 63);
        y.snapshot();
        y.put(0, 5, 2);
        y.flush(0);
        due("whole", y.whole(0), 1);
        dueLevel(y, 0, 3, new int[] {1, 1, 0, 0});
        dueRun(y, 0, 3, 0, new int[] {0, 63, 1, 3});
    }

    // ---- cutting

    /** Entries of keys from 0 on, so many of each, kept apart by snapshots; whole; then the runs. */
    private static void dueCuts(int[] counts, int[][] want) {
        Stratalog x = new Stratalog();
        int most = 0;
        for (int count : counts) {
            most = Math.max(most, count);
        }
        for (int round = 0; round < most; round++) {
            for (int i = 0; i < counts.length; i++) {
                if (round < counts[i]) {
                    x.put(0, 2 * i, round);
                }
            }
            if (round < most - 1) {
                x.snapshot();
            }
        }
        x.flush(0);
        due("whole", x.whole(0), 0);
        dueRuns(x, 0, 3, want);
    }

    private static int[] ones(int count) {
        int[] ones = new int[count];
        for (int i = 0; i < count; i++) {
            ones[i] = 1;
        }
        return ones;
    }

    private static void cutsByCounts() {
        Check.about("up to 8 entries");
        dueCuts(ones(1), new int[][] {{0, 0, 1}});
        dueCuts(ones(7), new int[][] {{0, 12, 7}});
        dueCuts(ones(8), new int[][] {{0, 14, 8}});
        dueCuts(ones(9), new int[][] {{0, 15, 8}, {16, 16, 1}});
        dueCuts(ones(16), new int[][] {{0, 15, 8}, {16, 30, 8}});
        dueCuts(ones(17), new int[][] {{0, 15, 8}, {16, 31, 8}, {32, 32, 1}});
    }

    private static void cutsOfOneKey() {
        Check.about("all of one key");
        dueCuts(new int[] {8}, new int[][] {{0, 0, 8}});
        dueCuts(new int[] {9}, new int[][] {{0, 0, 9}});
        dueCuts(new int[] {20}, new int[][] {{0, 0, 20}});
        dueCuts(new int[] {9, 1}, new int[][] {{0, 1, 9}, {2, 2, 1}});
        dueCuts(new int[] {1, 9}, new int[][] {{0, 1, 1}, {2, 2, 9}});
        dueCuts(new int[] {1, 9, 1}, new int[][] {{0, 1, 1}, {2, 3, 9}, {4, 4, 1}});
        dueCuts(new int[] {8, 1}, new int[][] {{0, 1, 8}, {2, 2, 1}});
        dueCuts(new int[] {1, 8}, new int[][] {{0, 1, 1}, {2, 2, 8}});
        dueCuts(new int[] {1, 7}, new int[][] {{0, 2, 8}});
        dueCuts(new int[] {7, 1}, new int[][] {{0, 2, 8}});
        dueCuts(new int[] {7, 2}, new int[][] {{0, 1, 7}, {2, 2, 2}});
        dueCuts(new int[] {6, 2}, new int[][] {{0, 2, 8}});
        dueCuts(new int[] {3, 3, 3}, new int[][] {{0, 3, 6}, {4, 4, 3}});
        dueCuts(new int[] {4, 4, 4, 4}, new int[][] {{0, 3, 8}, {4, 6, 8}});
        dueCuts(new int[] {5, 4, 4, 9, 9}, new int[][] {{0, 1, 5}, {2, 5, 8}, {6, 7, 9}, {8, 8, 9}});
    }

    private static void cutsOfTheLevelOne() {
        Check.about("cut in each level that is merged into");
        Stratalog x = new Stratalog();
        for (int i = 0; i < 3; i++) {
            runOf(x, 0, 3 * i, 3 * i + 2);
        }
        oneRun(x, 0, 63);
        due("compact", x.compact(0), 0);
        dueRuns(x, 0, 1, new int[][] {{0, 7, 8}, {8, 63, 2}});
        Stratalog y = new Stratalog();
        takeOf(y, 0, 0, 63, 1);
        due("whole of 64 entries", y.whole(0), 0);
        dueRuns(y, 0, 3, new int[][] {{0, 7, 8}, {8, 15, 8}, {16, 23, 8}, {24, 31, 8}, {32, 39, 8}, {40, 47, 8},
            {48, 55, 8}, {56, 63, 8}});
        for (int place = 0; place < 8; place++) {
            due("one number", y.run(0, 3, place, 3), 1);
        }
    }

    private static void spansStay() {
        Check.about("the span of all that was merged");
        Stratalog x = new Stratalog();
        x.mark(0, 0);
        x.put(0, 20, 1);
        x.clear(0, 60, 63);
        x.flush(0);
        due("whole", x.whole(0), 1);
        dueRuns(x, 0, 3, new int[][] {{0, 63, 1}});
        dueLevel(x, 0, 3, new int[] {1, 1, 0, 0});
        due("a span is what counts for rows", takeKeys(x, 0, 63), 2);
        due("and for rows upon that", takeKeys(x, 0, 0), 2);
        due("whole", x.whole(0), 0);
        dueRuns(x, 0, 3, new int[][] {{0, 63, 3}});
        x.mark(0, 20);
        x.flush(0);
        due("whole", x.whole(0), 2);
        dueRuns(x, 0, 3, new int[][] {{0, 63, 2}});
    }

    /** Runs of 0 to 7, 8 to 62 and 63, and a CLEAR above what a snapshot keeps in the first two of them. */
    private static Stratalog cleared(int from, int to) {
        Stratalog x = new Stratalog();
        for (int key = 0; key < 16; key++) {
            x.put(0, key, key);
        }
        x.snapshot();
        x.clear(0, from, to);
        x.put(0, 63, 1);
        x.flush(0);
        due("whole", x.whole(0), 0);
        return x;
    }

    private static void clearsInParts() {
        Check.about("of each CLEAR the part that lies in its span");
        int[][] ranges = {{0, 0}, {0, 7}, {7, 7}, {0, 8}, {7, 8}, {8, 8}, {8, 15}, {0, 62}, {0, 63}, {8, 16}, {15, 62},
            {15, 63}, {16, 63}};
        int[] parts = {1, 1, 1, 2, 2, 1, 1, 2, 3, 1, 1, 2, 0};
        for (int i = 0; i < ranges.length; i++) {
            int from = ranges[i][0];
            int to = ranges[i][1];
            Stratalog x = cleared(from, to);
            String range = "CLEAR of " + from + " to " + to;
            dueRuns(x, 0, 3, new int[][] {{0, 7, 8}, {8, 62, 8}, {63, 63, 1}});
            due(range + ", parts", x.level(0, 3, 2), parts[i]);
            due(range + ", in the first run", x.run(0, 3, 0, 3), from <= 7 ? 17 : 8);
            due(range + ", in the second run", x.run(0, 3, 1, 3), from <= 15 && to >= 8 ? 17 : 16);
            for (int key = 0; key < 16; key++) {
                boolean isIn = key >= from && key <= to;
                due(range + ", get of " + key, x.get(0, key, NONE), isIn ? NO_VALUE : key);
                due(range + ", get of " + key + " then", x.get(0, key, 0), key);
            }
        }
    }

    private static void partsAreApart() {
        Check.about("each part is a CLEAR by itself from then on");
        Stratalog x = cleared(0, 15);
        due("parts", x.level(0, 3, 2), 2);
        x.put(0, 4, 1);
        x.flush(0);
        due("whole", x.whole(0), 0);
        dueRuns(x, 0, 3, new int[][] {{0, 6, 8}, {7, 14, 8}, {15, 63, 2}});
        due("parts of parts", x.level(0, 3, 2), 4);
        due("in the second one there are two", x.run(0, 3, 1, 3), 17);
        x.release(0);
        due("whole without the snapshot", x.whole(0), 16);
        dueRuns(x, 0, 3, new int[][] {{0, 63, 2}});
        due("no parts", x.level(0, 3, 2), 0);
    }

    private static void partsAtCuts() {
        Check.about("parts that are dropped by themselves");
        Stratalog x = new Stratalog();
        takeKeys(x, 0, 0, 10);
        for (int key = 0; key < 8; key++) {
            x.put(0, key, key);
        }
        x.put(0, 20, 20);
        x.snapshot();
        x.clear(0, 0, 30);
        x.flush(0);
        for (int i = 0; i < 3; i++) {
            oneRun(x, 0, 40);
        }
        due("compact", x.compact(0), 0);
        dueRuns(x, 0, 1, new int[][] {{0, 19, 8}, {20, 40, 2}});
        due("parts", x.level(0, 1, 2), 2);
        x.release(0);
        for (int i = 0; i < 4; i++) {
            oneRun(x, 0, 40);
        }
        due("compact of the second run alone", x.compact(0), 0);
        dueRuns(x, 0, 1, new int[][] {{0, 19, 8}, {20, 40, 1}});
        due("its part has nothing below", x.level(0, 1, 2), 1);
        for (int i = 0; i < 4; i++) {
            oneRun(x, 0, 0);
        }
        due("compact of the first run alone", x.compact(0), 0);
        dueRuns(x, 0, 1, new int[][] {{0, 19, 1}, {20, 40, 1}});
        due("its part has something below", x.level(0, 1, 2), 1);
        due("what is below stays cleared", x.get(0, 10, NONE), NO_VALUE);
    }

    private static void manyParts() {
        Check.about("180 CLEARs in 8 runs");
        Stratalog x = new Stratalog();
        takeOf(x, 0, 0, 63, 1);
        x.snapshot();
        for (int i = 1; i <= 180; i++) {
            x.clear(0, 0, 63);
            if (i % 36 == 0) {
                x.flush(0);
                due("whole", x.whole(0), 0);
                dueLevel(x, 0, 3, new int[] {8, 64, 8 * i, 0});
            }
        }
        due("now", x.next(0, 0, true, NONE), NONE);
        due("then", x.next(0, 63, false, 0), 63);
        x.release(0);
        due("whole", x.whole(0), 64);
        dueLevel(x, 0, 3, new int[] {0, 0, 0, 0});
        due("number", x.crash(0), 181);
    }

    private static void clearsWithoutEntries() {
        Check.about("no entries");
        Stratalog x = new Stratalog();
        takeOf(x, 0, 0, 40, 1);
        clearRun(x, 0, 3, 5);
        clearRun(x, 0, 40, 50);
        clearRun(x, 0, 41, 60);
        clearRun(x, 0, 4, 4);
        due("compact of CLEARs alone", x.compact(0), 0);
        dueRuns(x, 0, 1, new int[][] {{3, 60, 0}});
        dueLevel(x, 0, 1, new int[] {1, 0, 3, 0});
        dueRun(x, 0, 1, 0, new int[] {3, 60, 0, 5});
        due("whole", x.whole(0), 4);
        dueLevel(x, 0, 1, new int[] {0, 0, 0, 0});
        dueLevel(x, 0, 3, new int[] {5, 37, 0, 0});
        dueRun(x, 0, 3, 4, new int[] {35, 60, 5, 1});
        Stratalog y = new Stratalog();
        clearRun(y, 0, 0, 63);
        due("whole of a CLEAR alone", y.whole(0), 0);
        due("no run", y.level(0, 3, 0), 0);
        y.put(0, 1, 1);
        clearRun(y, 0, 1, 1);
        due("whole of a CLEAR and what it drops", y.whole(0), 1);
        due("no run", y.level(0, 3, 0), 0);
        due("number", y.number(), 3);
    }

    private static void wholeOfNothing() {
        Check.about("whole without runs");
        Stratalog x = new Stratalog();
        x.put(0, 1, 1);
        x.mark(0, 1);
        due("whole", x.whole(0), 0);
        due("the table", x.table(0), 2);
        due("unsure", x.unsure(), 2);
        oneRun(x, 1, 1);
        x.put(1, 1, 1);
        due("whole of the other family", x.whole(1), 0);
        due("the other table", x.table(1), 1);
        due("unsure", x.unsure(), 1);
        due("whole", x.whole(0), 0);
        due("runs", x.level(0, 3, 0), 0);
        dueRun(x, 1, 3, 0, new int[] {1, 1, 1, 3});
    }

    private static void wholeLess() {
        Check.about("how many entries its runs have less");
        Stratalog x = new Stratalog();
        takeOf(x, 0, 0, 9, 1);
        takeOf(x, 0, 5, 14, 1);
        takeOf(x, 0, 8, 11, 1);
        runOf(x, 0, 9, 10);
        runOf(x, 1, 9, 10);
        due("of all levels", x.whole(0), 11);
        dueRuns(x, 0, 3, new int[][] {{0, 7, 8}, {8, 14, 7}});
        for (int level = 0; level < 3; level++) {
            due("runs of the level " + level, x.level(0, level, 0), 0);
        }
        due("the other family stays", x.level(1, 0, 0), 1);
        due("once more", x.whole(0), 0);
    }

    // ---- pins

    private static void pinsOfNothing() {
        Check.about("pins of nothing");
        Stratalog x = new Stratalog();
        x.snapshot();
        due("no runs", x.pins(0), 0);
        x.put(0, 1, 1);
        x.snapshot();
        x.put(0, 1, 2);
        due("in the table alone", x.pins(1), 0);
        x.flush(0);
        due("of the number 0", x.pins(0), 0);
        due("of the number 1", x.pins(1), 1);
        x.snapshot();
        due("of the latest number", x.pins(2), 0);
        due("asked once more", x.pins(1), 1);
        due("entries", x.level(0, 0, 1), 2);
        due("runs", x.level(0, 0, 0), 1);
        x.release(1);
        due("whole", x.whole(0), 1);
        due("of the number 0", x.pins(0), 0);
    }

    /** By the kinds of two writes at a key, with the snapshot between them. */
    private static void pinsByNumbers() {
        Check.about("pins by kinds");
        int[][] writes = {{1, 2}, {1, MARK}, {MARK, 1}, {MARK, MARK}, {ADD + 1, ADD + 1}, {1, ADD + 1}, {ADD + 1, 1},
            {MARK, ADD + 1}, {ADD + 1, MARK}};
        int[] want = {1, 2, 0, 0, 1, 1, 1, 0, 2};
        for (int i = 0; i < writes.length; i++) {
            Stratalog x = new Stratalog();
            writeAll(x, writes[i][0]);
            x.snapshot();
            writeAll(x, writes[i][1]);
            x.flush(0);
            due("pins of case " + i, x.pins(0), want[i]);
            x.whole(0);
            due("pins of case " + i + ", merged", x.pins(0), want[i]);
            x.release(0);
            due("whole of case " + i, x.whole(0), want[i]);
        }
        Stratalog y = new Stratalog();
        y.put(0, 0, 1);
        y.put(0, 63, 1);
        y.snapshot();
        y.clear(0, 0, 63);
        y.flush(0);
        due("pins of what is cleared", y.pins(0), 2);
    }

    private static void pinsOfBothFamilies() {
        Check.about("pins in both families, in all levels");
        Stratalog x = new Stratalog();
        for (int family = 0; family < 2; family++) {
            takeKeys(x, family, 0, 63);
            takeKeys(x, family, 0, 5);
            x.put(family, 0, 1);
            x.flush(family);
        }
        x.snapshot();
        due("nothing is newer", x.pins(0), 0);
        x.put(0, 0, 2);
        x.put(0, 5, 2);
        x.put(0, 63, 2);
        x.flush(0);
        due("of the family 0", x.pins(0), 3);
        x.mark(1, 63);
        x.flush(1);
        due("of both", x.pins(0), 5);
        x.whole(0);
        due("whole or not", x.pins(0), 5);
        x.whole(1);
        due("whole or not", x.pins(0), 5);
    }

    private static void pinsBesideOthers() {
        Check.about("pins beside others");
        Stratalog x = new Stratalog();
        x.put(0, 1, 1);
        x.put(0, 2, 1);
        x.snapshot();
        x.snapshot();
        x.put(0, 1, 2);
        x.snapshot();
        x.begin();
        x.put(0, 1, 3);
        x.put(0, 2, 3);
        x.flush(0);
        due("of one of two", x.pins(0), 0);
        due("of the other one", x.pins(1), 0);
        due("beside a transaction", x.pins(2), 0);
        x.release(0);
        due("of the one that is left", x.pins(1), 1);
        x.commit(0);
        due("without the transaction", x.pins(2), 1);
        due("of the one that is left", x.pins(1), 1);
        x.release(2);
        due("of it alone", x.pins(1), 2);
        Check.throwsIndex("pins of a released one", () -> x.pins(2));
        x.crash(0);
        Check.throwsIndex("pins after a crash", () -> x.pins(1));
    }

    private static void pinsInEachLevel() {
        for (int family = 0; family < 2; family++) {
            for (int level = 0; level < 4; level++) {
                Check.about("pins of what is in the level " + level + " of the family " + family);
                Stratalog x = new Stratalog();
                x.put(family, 0, 1);
                x.snapshot();
                x.put(family, 0, 2);
                due("of what is in the table", x.pins(0), 0);
                runOf(x, family, 1, 10);
                if (level == 1 || level == 2) {
                    for (int key = 20; key < 23; key++) {
                        oneRun(x, family, key);
                    }
                    due("compact", x.compact(family), 0);
                }
                if (level == 2) {
                    due("compact", x.compact(family), 1);
                }
                if (level == 3) {
                    due("whole", x.whole(family), 0);
                }
                dueRun(x, family, level, 0, level == 0 ? new int[] {0, 10, 12, 12} : new int[] {0, 6, 8, 8});
                due("pins", x.pins(0), 1);
                x.release(0);
                due("whole, when it has ended", x.whole(family), 1);
            }
        }
    }

    private static void cutsBesideOneKey() {
        int[] counts = {6, 7, 8, 9, 10, 11, 12, 20, 29};
        for (int i = 0; i < counts.length; i++) {
            int[][] want = {{4, 4, 1}, {5, 5, counts[i]}, {6, 6, 1}};
            if (counts[i] == 6) {
                want = new int[][] {{4, 6, 8}};
            } else if (counts[i] == 7) {
                want = new int[][] {{4, 5, 8}, {6, 6, 1}};
            }
            Check.about("one key with " + counts[i] + " between two others");
            Stratalog x = new Stratalog();
            x.put(0, 4, 1);
            x.put(0, 6, 1);
            for (int n = 0; n < counts[i]; n++) {
                x.put(0, 5, n);
                x.snapshot();
            }
            x.flush(0);
            due("whole", x.whole(0), 0);
            dueRuns(x, 0, 3, want);
        }
    }
}
