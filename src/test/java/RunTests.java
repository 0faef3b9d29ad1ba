/** The edges of flushing, of scores, and of what compact() takes. */
public final class RunTests extends TestBase {
    private RunTests() {
    }

    public static void main(String[] args) {
        flushOfNothing();
        flushCounts();
        flushSpans();
        flushSyncs();
        placesInTheLevelZero();
        scoreOfTheLevelZero();
        scoreOfTheLevelOne();
        scoreOfTheLevelTwo();
        scoreOfTheLevelThree();
        levelsOfOneScore();
        levelsOfAnotherScore();
        compactOfClearsAlone();
        turnsInTheLevelOne();
        turnsBeginAboveTheEnd();
        turnsStayThroughCrashes();
        turnsAreOfOneLevel();
        turnsAreOfOneFamily();
        turnsOfThisCallAlone();
        turnsInTheLevelTwo();
        turnsOfTheLevelTwoStay();
        runsOfTheLevelBelow();
        runsBelowTheLevelZero();
        runsBelowTheLevelTwo();
        greatestNumbersAtTheEnds();
        scoresOfManyEntries();
        System.out.println("RunTests");
        Check.end();
    }

    private static void flushOfNothing() {
        Check.about("flush of an empty table");
        Stratalog x = new Stratalog();
        due("flush", x.flush(0), NONE);
        due("runs", x.level(0, 0, 0), 0);
        x.put(0, 1, 1);
        due("flush of the other family", x.flush(1), NONE);
        due("it synced", x.unsure(), 0);
        due("the table stays", x.table(0), 1);
        due("flush", x.flush(0), 1);
        due("flush again", x.flush(0), NONE);
        due("runs", x.level(0, 0, 0), 1);
        due("the table", x.table(0), 0);
    }

    private static void flushCounts() {
        Check.about("how many entries the run has");
        Stratalog x = new Stratalog();
        x.clear(0, 3, 3);
        due("a CLEAR alone", x.flush(0), 0);
        dueLevel(x, 0, 0, new int[] {1, 0, 1, 25});
        x.put(0, 3, 1);
        due("an entry alone", x.flush(0), 1);
        for (int i = 0; i < 12; i++) {
            x.add(0, 3, 1);
        }
        x.clear(0, 3, 3);
        x.clear(0, 3, 3);
        due("one key with 12 entries", x.flush(0), 12);
        dueRun(x, 0, 0, 0, new int[] {3, 3, 12, 16});
        dueLevel(x, 0, 0, new int[] {3, 13, 3, 75});
        putMany(x, 0, 40);
        due("a full table", x.flush(0), 40);
        dueRun(x, 0, 0, 0, new int[] {0, 39, 40, 56});
    }

    private static void flushSpans() {
        dueSpan("the key 0", x -> x.put(0, 0, 1), 0, 0);
        dueSpan("the key 63", x -> x.mark(0, 63), 63, 63);
        dueSpan("the keys 0 and 63", x -> { x.add(0, 63, 1); x.add(0, 0, 1); }, 0, 63);
        dueSpan("a CLEAR of one key", x -> x.clear(0, 9, 9), 9, 9);
        dueSpan("a CLEAR of all", x -> x.clear(0, 0, 63), 0, 63);
        dueSpan("a CLEAR below", x -> { x.put(0, 30, 1); x.clear(0, 20, 25); }, 20, 30);
        dueSpan("a CLEAR above", x -> { x.put(0, 20, 1); x.clear(0, 25, 30); }, 20, 30);
        dueSpan("a CLEAR around", x -> { x.put(0, 20, 1); x.clear(0, 15, 30); }, 15, 30);
        dueSpan("a CLEAR within", x -> { x.put(0, 20, 1); x.clear(0, 21, 29); x.put(0, 30, 1); }, 20, 30);
        dueSpan("two CLEARs", x -> { x.clear(0, 40, 50); x.clear(0, 2, 3); }, 2, 50);
    }

    private static void dueSpan(String what, Script script, int begins, int ends) {
        Check.about("the span of " + what);
        Stratalog x = new Stratalog();
        script.on(x);
        x.flush(0);
        due("begins", x.run(0, 0, 0, 0), begins);
        due("ends", x.run(0, 0, 0, 1), ends);
        due("greatest number", x.run(0, 0, 0, 3), x.number());
    }

    private static void flushSyncs() {
        Check.about("to flush is to sync");
        Stratalog x = new Stratalog();
        x.put(0, 1, 1);
        x.put(1, 1, 1);
        x.flush(0);
        due("unsure", x.unsure(), 0);
        due("the other table stays", x.table(1), 1);
        x.put(1, 2, 1);
        due("crash", x.crash(0), 2);
        due("what was flushed", x.get(0, 1, NONE), 1);
        due("what was synced in the other table", x.get(1, 1, NONE), 1);
        due("table of the flushed", x.table(0), 0);
        due("what was not synced", x.get(1, 2, NONE), NO_VALUE);
    }

    private static void placesInTheLevelZero() {
        Check.about("the latest one first");
        Stratalog x = new Stratalog();
        int[] keys = {30, 10, 50, 10, 63, 0};
        for (int i = 0; i < keys.length; i++) {
            oneRun(x, 0, keys[i]);
            for (int place = 0; place <= i; place++) {
                int key = keys[i - place];
                dueRun(x, 0, 0, place, new int[] {key, key, 1, i - place + 1});
            }
            int behind = i + 1;
            Check.throwsIndex("the place behind", () -> x.run(0, 0, behind, 0));
        }
        Check.throwsIndex("ahead of the first place", () -> x.run(0, 0, -1, 0));
        due("taken in", takeKeys(x, 0, 40), 3);
        due("taken in upon a run", takeKeys(x, 0, 30), 0);
        dueRun(x, 0, 0, 0, new int[] {30, 30, 1, 8});
        dueRun(x, 0, 0, 6, new int[] {30, 30, 1, 1});
    }

    // ---- scores

    private static void scoreOfTheLevelZero() {
        Check.about("score of the level 0");
        Stratalog x = new Stratalog();
        int[] scores = {0, 25, 50, 75, 100, 125, 150};
        for (int runs = 0; runs < scores.length; runs++) {
            due("score of " + runs + " runs", x.level(0, 0, 3), scores[runs]);
            if (runs < 6) {
                oneRun(x, 0, 10 * runs);
            }
        }
        due("taken in", takeKeys(x, 0, 50), 0);
        due("score of 7 runs", x.level(0, 0, 3), 175);
        Stratalog y = new Stratalog();
        runOf(y, 0, 0, 19);
        runOf(y, 0, 20, 39);
        runOf(y, 0, 40, 59);
        due("score of 3 runs of 60 entries", y.level(0, 0, 3), 75);
        due("compact just below 100", y.compact(0), NONE);
        dueLevel(y, 0, 0, new int[] {3, 60, 0, 75});
        oneRun(y, 0, 63);
        due("compact at 100", y.compact(0), 0);
        dueLevel(y, 0, 0, new int[] {0, 0, 0, 0});
        due("entries", y.level(0, 1, 1), 61);
        due("rounded down", y.level(0, 1, 3), 508);
    }

    private static void scoreOfTheLevelOne() {
        Check.about("score of the level 1");
        int[] scores = {8, 16, 25, 33, 41, 50, 58, 66, 75, 83, 91, 100, 108};
        for (int entries = 1; entries <= scores.length; entries++) {
            Stratalog x = new Stratalog();
            footing(x, 0);
            due("taken in", takeOf(x, 0, 10, 9 + entries, 1), 1);
            dueLevel(x, 0, 1, new int[] {1, entries, 0, scores[entries - 1]});
            due("compact of " + entries, x.compact(0), entries < 12 ? NONE : 1);
            due("runs then", x.level(0, 1, 0), entries < 12 ? 1 : 0);
        }
        Stratalog y = new Stratalog();
        footing(y, 0);
        takeOf(y, 0, 10, 15, 1);
        takeOf(y, 0, 30, 34, 1);
        due("compact of two runs with 11", y.compact(0), NONE);
        takeOf(y, 0, 20, 20, 1);
        due("compact of three runs with 12", y.compact(0), 1);
        dueRuns(y, 0, 1, new int[][] {{20, 20, 1}, {30, 34, 5}});
    }

    private static void scoreOfTheLevelTwo() {
        Check.about("score of the level 2");
        int[] counts = {1, 23, 24, 47, 48, 49, 64};
        int[] scores = {2, 47, 50, 97, 100, 102, 133};
        for (int i = 0; i < counts.length; i++) {
            Stratalog x = new Stratalog();
            takeKeys(x, 0, 0, 63);
            due("taken in", takeOf(x, 0, 0, counts[i] - 1, 1), 2);
            dueLevel(x, 0, 2, new int[] {1, counts[i], 0, scores[i]});
            due("compact of " + counts[i], x.compact(0), counts[i] < 48 ? NONE : 2);
            due("entries then", x.level(0, 2, 1), counts[i] < 48 ? counts[i] : 0);
        }
    }

    private static void scoreOfTheLevelThree() {
        Check.about("the level 3 has 0");
        Stratalog x = new Stratalog();
        takeOf(x, 0, 0, 63, 1);
        dueLevel(x, 0, 3, new int[] {1, 64, 0, 0});
        due("compact", x.compact(0), NONE);
        due("whole", x.whole(0), 0);
        dueLevel(x, 0, 3, new int[] {8, 64, 0, 0});
        due("compact", x.compact(0), NONE);
    }

    /** A footing, 12 or more entries in the level 1, 48 or more in the level 2, 4 or more runs in the level 0. */
    private static Stratalog scored(int runs, int ofOne, int ofTwo) {
        Stratalog x = new Stratalog();
        takeKeys(x, 0, 0, 63);
        if (ofTwo > 0) {
            due("taken into the level 2", takeOf(x, 0, 0, ofTwo - 1, 1), 2);
        } else {
            due("taken into the level 2", takeKeys(x, 0, 0, 63), 2);
        }
        if (ofOne > 0) {
            due("taken into the level 1", takeOf(x, 0, 10, 9 + ofOne, 1), 1);
        }
        for (int i = 0; i < runs; i++) {
            oneRun(x, 0, 40 + i);
        }
        return x;
    }

    private static void levelsOfOneScore() {
        Check.about("of several that with the least number");
        due("0 and 1", scored(4, 12, 0).compact(0), 0);
        due("0 and 2", scored(4, 0, 48).compact(0), 0);
        due("1 and 2", scored(0, 12, 48).compact(0), 1);
        due("all of them", scored(4, 12, 48).compact(0), 0);
        due("0 and 1 at 125", scored(5, 15, 0).compact(0), 0);
    }

    private static void levelsOfAnotherScore() {
        Check.about("the level with the greatest score");
        due("100, 108, 0", scored(4, 13, 0).compact(0), 1);
        due("100, 0, 102", scored(4, 0, 49).compact(0), 2);
        due("0, 100, 102", scored(0, 12, 49).compact(0), 2);
        due("100, 100, 102", scored(4, 12, 49).compact(0), 2);
        due("100, 108, 102", scored(4, 13, 49).compact(0), 1);
        due("125, 116, 104", scored(5, 14, 50).compact(0), 0);
        due("75, 91, 97", scored(3, 11, 47).compact(0), NONE);
        due("75, 91, 100", scored(3, 11, 48).compact(0), 2);
        due("75, 100, 97", scored(3, 12, 47).compact(0), 1);
        due("100, 91, 97", scored(4, 11, 47).compact(0), 0);
    }

    private static void compactOfClearsAlone() {
        Check.about("runs with CLEARs alone");
        Stratalog x = new Stratalog();
        for (int i = 0; i < 4; i++) {
            clearRun(x, 0, 10 * i, 10 * i);
        }
        dueLevel(x, 0, 0, new int[] {4, 0, 4, 100});
        due("compact", x.compact(0), 0);
        for (int level = 0; level < 4; level++) {
            dueLevel(x, 0, level, new int[] {0, 0, 0, 0});
        }
        due("compact of nothing", x.compact(0), NONE);
        clearRun(x, 0, 0, 63);
        due("whole", x.whole(0), 0);
        due("no run is left", x.level(0, 0, 0) + x.level(0, 3, 0), 0);
    }

    // ---- which run of a level is taken

    private static void turnsInTheLevelOne() {
        Check.about("the first one whose span begins above the key");
        Stratalog x = new Stratalog();
        footing(x, 0);
        due("taken in", takeOf(x, 0, 0, 11, 2), 1);
        due("taken in", takeOf(x, 0, 12, 23, 2), 1);
        due("taken in", takeOf(x, 0, 52, 63, 2), 1);
        due("without one that was taken, the first of all", x.compact(0), 1);
        dueRuns(x, 0, 1, new int[][] {{12, 23, 12}, {52, 63, 12}});
        due("the next one", x.compact(0), 1);
        dueRuns(x, 0, 1, new int[][] {{52, 63, 12}});
        due("taken in ahead of it", takeOf(x, 0, 0, 11, 3), 1);
        due("the next one", x.compact(0), 1);
        dueRuns(x, 0, 1, new int[][] {{0, 11, 12}});
        due("behind the last key, the first of all", x.compact(0), 1);
        dueRuns(x, 0, 1, new int[][] {});
        due("then none is full", x.compact(0), NONE);
    }

    private static void turnsBeginAboveTheEnd() {
        Check.about("a span that begins at the key where the one ended");
        Stratalog x = new Stratalog();
        footing(x, 0);
        takeOf(x, 0, 0, 11, 2);
        due("compact", x.compact(0), 1);
        due("taken in", takeOf(x, 0, 11, 22, 2), 1);
        due("taken in", takeKeys(x, 0, 63), 1);
        due("compact", x.compact(0), 1);
        dueRuns(x, 0, 1, new int[][] {{11, 22, 12}});
        Stratalog y = new Stratalog();
        footing(y, 0);
        takeOf(y, 0, 0, 11, 2);
        due("compact", y.compact(0), 1);
        due("taken in", takeOf(y, 0, 12, 23, 2), 1);
        due("taken in", takeKeys(y, 0, 63), 1);
        due("the one that begins next to it", y.compact(0), 1);
        dueRuns(y, 0, 1, new int[][] {{63, 63, 1}});
        Stratalog z = new Stratalog();
        footing(z, 0);
        takeOf(z, 0, 10, 21, 2);
        due("compact", z.compact(0), 1);
        due("taken in, ending above the key", takeOf(z, 0, 12, 22, 2), 1);
        due("taken in", takeKeys(z, 0, 0), 1);
        due("none begins above the key: the first of all", z.compact(0), 1);
        dueRuns(z, 0, 1, new int[][] {{12, 22, 11}});
    }

    private static void turnsStayThroughCrashes() {
        Script[] crashes = {
            x -> x.crash(0), x -> x.crash(100), x -> x.cut(0, true), x -> x.cut(0, false), x -> x.cut(1, true),
            x -> x.cut(1, false), x -> { x.crash(0); x.crash(0); }};
        for (int i = 0; i < crashes.length; i++) {
            Check.about("turns stay through crash " + i);
            Stratalog x = new Stratalog();
            footing(x, 0);
            takeOf(x, 0, 10, 21, 2);
            due("compact", x.compact(0), 1);
            x.put(0, 40, 1);
            crashes[i].on(x);
            due("taken in", takeOf(x, 0, 0, 9, 2), 1);
            due("taken in", takeOf(x, 0, 22, 23, 2), 1);
            due("compact", x.compact(0), 1);
            dueRuns(x, 0, 1, new int[][] {{0, 9, 10}});
        }
    }

    private static void turnsAreOfOneLevel() {
        Check.about("each level has a turn of its own");
        Stratalog x = new Stratalog();
        takeKeys(x, 0, 0, 63);
        due("taken in", takeOf(x, 0, 0, 23, 2), 2);
        due("taken in", takeOf(x, 0, 24, 47, 2), 2);
        due("taken in", takeOf(x, 0, 48, 63, 2), 2);
        due("compact of the first one of the level 2", x.compact(0), 2);
        dueRuns(x, 0, 2, new int[][] {{24, 47, 24}, {48, 63, 16}});
        due("taken in", takeOf(x, 0, 48, 59, 3), 1);
        due("taken in", takeOf(x, 0, 24, 35, 3), 1);
        due("compact of the first one of the level 1", x.compact(0), 1);
        dueRuns(x, 0, 1, new int[][] {{48, 59, 12}});
        dueRuns(x, 0, 2, new int[][] {{24, 31, 8}, {32, 39, 8}, {40, 47, 8}, {48, 63, 16}});
        due("taken in", takeOf(x, 0, 0, 7, 4), 2);
        due("compact of the second one of the level 2", x.compact(0), 1);
        due("score of the level 2", x.level(0, 2, 3), 100);
        due("compact of the level 2", x.compact(0), 2);
        dueRuns(x, 0, 2, new int[][] {{0, 7, 8}, {32, 39, 8}, {40, 47, 8}, {48, 55, 8}, {56, 63, 8}});
    }

    private static void turnsAreOfOneFamily() {
        Check.about("each family has a turn of its own");
        Stratalog x = new Stratalog();
        for (int family = 0; family < 2; family++) {
            footing(x, family);
            takeOf(x, family, 10, 21, 2);
        }
        due("compact", x.compact(0), 1);
        takeOf(x, 1, 0, 1, 2);
        due("compact of the other one", x.compact(1), 1);
        dueRuns(x, 1, 1, new int[][] {{10, 21, 12}});
        takeOf(x, 0, 5, 6, 2);
        takeOf(x, 0, 30, 39, 2);
        due("compact", x.compact(0), 1);
        dueRuns(x, 0, 1, new int[][] {{5, 6, 2}});
    }

    private static void turnsOfThisCallAlone() {
        Check.about("what else is merged takes no turn");
        Stratalog x = new Stratalog();
        footing(x, 0);
        takeOf(x, 0, 10, 21, 2);
        due("compact", x.compact(0), 1);
        takeOf(x, 0, 0, 1, 2);
        takeOf(x, 0, 30, 41, 2);
        x.whole(0);
        footingAgain(x);
        due("taken in", takeOf(x, 0, 0, 11, 2), 1);
        due("taken in", takeOf(x, 0, 22, 33, 2), 1);
        due("after whole()", x.compact(0), 1);
        dueRuns(x, 0, 1, new int[][] {{0, 11, 12}});
        Stratalog y = new Stratalog();
        footing(y, 0);
        takeOf(y, 0, 10, 21, 2);
        due("compact", y.compact(0), 1);
        takeOf(y, 0, 22, 23, 2);
        takeOf(y, 0, 50, 51, 2);
        for (int i = 0; i < 4; i++) {
            oneRun(y, 0, 23 + 9 * i);
        }
        due("compact of the level 0, with all of the level 1", y.compact(0), 0);
        dueRuns(y, 0, 1, new int[][] {{22, 51, 6}});
        due("taken in", takeOf(y, 0, 0, 1, 2), 1);
        due("taken in", takeOf(y, 0, 55, 58, 2), 1);
        due("the one that begins above 21", y.compact(0), 1);
        dueRuns(y, 0, 1, new int[][] {{0, 1, 2}, {55, 58, 4}});
    }

    private static void footingAgain(Stratalog x) {
        due("footing of the level 2", takeKeys(x, 0, 0, 63), 2);
    }

    /** A run over all keys in the level 3; of two in the level 2 the one was taken that ended at 31. */
    private static Stratalog turnAt31() {
        Stratalog x = new Stratalog();
        takeKeys(x, 0, 0, 63);
        due("taken in", takeOf(x, 0, 48, 63, 2), 2);
        due("taken in", takeOf(x, 0, 0, 31, 2), 2);
        due("compact of the first of all", x.compact(0), 2);
        dueRuns(x, 0, 2, new int[][] {{48, 63, 16}});
        return x;
    }

    private static void turnsInTheLevelTwo() {
        Check.about("turns in the level 2");
        Stratalog x = turnAt31();
        due("taken in", takeOf(x, 0, 0, 14, 2), 2);
        due("taken in, beginning where the one ended", takeOf(x, 0, 31, 47, 2), 2);
        due("compact", x.compact(0), 2);
        dueRuns(x, 0, 2, new int[][] {{0, 14, 15}, {31, 47, 17}});
        due("taken in", takeOf(x, 0, 15, 30, 2), 2);
        due("compact, none beginning above 63", x.compact(0), 2);
        dueRuns(x, 0, 2, new int[][] {{15, 30, 16}, {31, 47, 17}});
        Stratalog y = turnAt31();
        due("taken in", takeOf(y, 0, 0, 15, 2), 2);
        due("taken in, beginning above it", takeOf(y, 0, 32, 47, 2), 2);
        due("compact", y.compact(0), 2);
        dueRuns(y, 0, 2, new int[][] {{0, 15, 16}, {48, 63, 16}});
    }

    private static void turnsOfTheLevelTwoStay() {
        Script[] between = {
            x -> x.crash(0), x -> x.crash(100), x -> x.cut(0, true), x -> x.cut(0, false), x -> x.cut(1, true),
            x -> x.cut(1, false), x -> x.whole(1), x -> x.compact(1), x -> x.flush(0), x -> x.compact(0)};
        for (int i = 0; i < between.length; i++) {
            Check.about("turns of the level 2 stay through " + i);
            Stratalog x = turnAt31();
            x.put(1, 40, 1);
            between[i].on(x);
            due("taken in", takeOf(x, 0, 0, 15, 2), 2);
            due("taken in", takeOf(x, 0, 32, 47, 2), 2);
            due("compact", x.compact(0), 2);
            dueRuns(x, 0, 2, new int[][] {{0, 15, 16}, {48, 63, 16}});
        }
        Check.about("turns of the level 2 stay through whole()");
        Stratalog x = turnAt31();
        x.whole(0);
        due("runs of the level 2", x.level(0, 2, 0), 0);
        due("taken in", takeOf(x, 0, 0, 23, 2), 2);
        due("taken in", takeOf(x, 0, 32, 55, 2), 2);
        due("compact", x.compact(0), 2);
        dueRuns(x, 0, 2, new int[][] {{0, 23, 24}});
    }

    // ---- which runs of the level below are taken

    private static void runsOfTheLevelBelow() {
        Check.about("a key in common with the range, in the level 2");
        Stratalog x = new Stratalog();
        takeKeys(x, 0, 0, 63);
        due("next to it", takeOf(x, 0, 0, 9, 2), 2);
        due("its first key", takeKeys(x, 0, 10), 2);
        due("its last key", takeKeys(x, 0, 20), 2);
        due("next to it", takeOf(x, 0, 21, 30, 2), 2);
        due("far from it", takeKeys(x, 0, 40, 50), 2);
        due("eleven entries", takeOf(x, 0, 10, 20, 3), 1);
        due("one more", takeKeys(x, 0, 45), 1);
        due("compact", x.compact(0), 1);
        dueRuns(x, 0, 1, new int[][] {{45, 45, 1}});
        dueRuns(x, 0, 2, new int[][] {{0, 9, 10}, {10, 17, 8}, {18, 20, 3}, {21, 30, 10}, {40, 50, 2}});
        due("its first key", x.get(0, 10, NONE), 3);
        due("its last key", x.get(0, 20, NONE), 3);
        Stratalog y = new Stratalog();
        takeKeys(y, 0, 0, 63);
        due("a run around it", takeKeys(y, 0, 5, 40), 2);
        due("taken in", takeOf(y, 0, 10, 21, 3), 1);
        due("compact", y.compact(0), 1);
        dueRuns(y, 0, 2, new int[][] {{5, 16, 8}, {17, 40, 6}});
    }

    private static void runsBelowTheLevelZero() {
        Check.about("from the least to the greatest key of all spans of the level 0");
        Stratalog x = new Stratalog();
        footing(x, 0);
        due("next to the range", takeOf(x, 0, 0, 9, 2), 1);
        due("its first key", takeKeys(x, 0, 10), 1);
        due("between its spans", takeKeys(x, 0, 30), 1);
        due("its last key", takeKeys(x, 0, 50), 1);
        due("next to the range", takeOf(x, 0, 51, 60, 2), 1);
        due("score of the level 1", x.level(0, 1, 3), 191);
        oneRun(x, 0, 48);
        oneRun(x, 0, 50);
        oneRun(x, 0, 12);
        oneRun(x, 0, 10);
        for (int i = 0; i < 4; i++) {
            due("taken in", takeKeys(x, 0, 12), 0);
        }
        due("score of the level 0", x.level(0, 0, 3), 200);
        due("compact", x.compact(0), 0);
        dueLevel(x, 0, 0, new int[] {0, 0, 0, 0});
        dueRuns(x, 0, 1, new int[][] {{0, 9, 10}, {10, 50, 5}, {51, 60, 10}});
    }

    private static void runsBelowTheLevelTwo() {
        Check.about("a key in common with the range, in the level 3");
        Stratalog x = new Stratalog();
        due("next to it", takeOf(x, 0, 0, 8, 1), 3);
        due("its first key", takeKeys(x, 0, 9), 3);
        due("its last key", takeKeys(x, 0, 56), 3);
        due("next to it", takeKeys(x, 0, 57, 63), 3);
        due("taken in", takeOf(x, 0, 9, 56, 2), 2);
        due("compact", x.compact(0), 2);
        due("runs of the level 2", x.level(0, 2, 0), 0);
        due("runs of the level 3", x.level(0, 3, 0), 8);
        dueRun(x, 0, 3, 0, new int[] {0, 8, 9, 1});
        dueRun(x, 0, 3, 1, new int[] {9, 16, 8, 5});
        dueRun(x, 0, 3, 6, new int[] {49, 56, 8, 5});
        dueRun(x, 0, 3, 7, new int[] {57, 63, 2, 4});
    }

    // ---- numbers and scores

    private static void greatestNumbersAtTheEnds() {
        Check.about("the greatest number of a run, of CLEARs, too");
        Stratalog x = new Stratalog();
        x.put(0, 5, 1);
        x.clear(0, 60, 63);
        x.flush(0);
        dueRun(x, 0, 0, 0, new int[] {5, 63, 1, 2});
        x.clear(0, 63, 63);
        x.put(0, 0, 1);
        x.flush(0);
        dueRun(x, 0, 0, 0, new int[] {0, 63, 1, 4});
        x.put(0, 63, 1);
        x.clear(0, 0, 0);
        x.flush(0);
        dueRun(x, 0, 0, 0, new int[] {0, 63, 1, 6});
        x.clear(0, 0, 63);
        x.flush(0);
        dueRun(x, 0, 0, 0, new int[] {0, 63, 0, 7});
        x.put(0, 0, 1);
        x.clear(0, 63, 63);
        x.put(0, 62, 1);
        x.flush(0);
        dueRun(x, 0, 0, 0, new int[] {0, 63, 2, 10});
    }

    private static void scoresOfManyEntries() {
        Check.about("scores of many entries");
        Stratalog x = new Stratalog();
        for (int round = 0; round < 4; round++) {
            runOf(x, 0, 0, 38);
            x.snapshot();
        }
        due("compact of four stripes", x.compact(0), 0);
        dueLevel(x, 0, 1, new int[] {20, 156, 0, 1300});
        int[] ofOne = {1233, 1166, 1100, 1033, 966, 900, 833, 766, 700, 633, 566, 500, 433, 366, 300, 233};
        int[] ofTwo = {16, 33, 50, 66, 83, 100, 116, 133, 150, 166, 183, 200, 216, 233, 250, 266};
        for (int i = 0; i < ofOne.length; i++) {
            due("compact", x.compact(0), 1);
            dueLevel(x, 0, 1, new int[] {19 - i, 148 - 8 * i, 0, ofOne[i]});
            dueLevel(x, 0, 2, new int[] {i + 1, 8 * i + 8, 0, ofTwo[i]});
        }
        due("266 is more than 233", x.compact(0), 2);
        dueLevel(x, 0, 2, new int[] {15, 120, 0, 250});
        dueLevel(x, 0, 3, new int[] {1, 8, 0, 0});
    }
}
