/** The edges of the log: syncing, what crashes leave, and crashes while files are swapped. */
public final class CrashTests extends TestBase {
    private CrashTests() {
    }

    public static void main(String[] args) {
        leavesSoManyRecords();
        leavesNoneOfNone();
        leavesOfEighty();
        leavesSureOnes();
        leavesWholeTransactions();
        leavesTheFirstOnes();
        whatIsLeftIsSure();
        tablesAreMadeAnew();
        numberGoesOnFromRuns();
        numberGoesOnFromRows();
        numberGoesOnFromTables();
        numbersAreGivenAnew();
        numbersBeginAnew();
        draftStays();
        runsStay();
        syncCounts();
        unsureCounts();
        whatSyncs();
        cutOfAFlush();
        cutOfACompaction();
        cutLeavesRunsAsTheyWere();
        cutEndsViews();
        firstWritesAreLost();
        System.out.println("CrashTests");
        Check.end();
    }

    private static void leavesSoManyRecords() {
        int[] lefts = {0, 1, 2, 3, 4, 100};
        for (int left : lefts) {
            Check.about("crash(" + left + ") with 3 records that are not sure");
            Stratalog x = new Stratalog();
            x.put(0, 1, 1);
            x.sync();
            x.put(0, 2, 2);
            x.mark(1, 3);
            x.clear(0, 1, 1);
            int want = 1 + Math.min(left, 3);
            due("crash", x.crash(left), want);
            due("number", x.number(), want);
            due("unsure", x.unsure(), 0);
            due("table", x.table(0), left == 0 ? 1 : left < 3 ? 2 : 3);
            due("the other table", x.table(1), left < 2 ? 0 : 1);
            due("what was sure", x.get(0, 1, NONE), left < 3 ? 1 : NO_VALUE);
            due("the first one", x.get(0, 2, NONE), left < 1 ? NO_VALUE : 2);
            due("the number goes on", x.put(1, 1, 1), want + 1);
        }
    }

    private static void leavesNoneOfNone() {
        Check.about("a crash without records");
        Stratalog x = new Stratalog();
        due("crash(0)", x.crash(0), 0);
        due("crash(1)", x.crash(1), 0);
        due("crash(100)", x.crash(100), 0);
        due("put", x.put(0, 1, 1), 1);
        due("sync", x.sync(), 1);
        due("crash(0) of what is sure", x.crash(0), 1);
        due("crash(100) of what is sure", x.crash(100), 1);
        due("get", x.get(0, 1, NONE), 1);
        due("table", x.table(0), 1);
    }

    private static void leavesOfEighty() {
        for (int left : new int[] {0, 1, 79, 80, 81, 99, 100}) {
            Check.about("crash(" + left + ") with 80 records");
            Stratalog x = new Stratalog();
            putMany(x, 0, 40);
            putMany(x, 1, 40);
            due("unsure", x.unsure(), 80);
            due("crash", x.crash(left), Math.min(left, 80));
            due("table", x.table(0), Math.min(left, 40));
            due("the other table", x.table(1), Math.max(0, Math.min(left, 80) - 40));
            due("pressure", x.pressure(0), left < 24 ? 0 : 2);
        }
    }

    private static void leavesSureOnes() {
        Check.about("so many of those that are not sure");
        Stratalog x = new Stratalog();
        for (int i = 0; i < 5; i++) {
            x.put(0, i, i);
        }
        x.sync();
        for (int i = 5; i < 9; i++) {
            x.put(0, i, i);
        }
        due("crash(2)", x.crash(2), 7);
        due("the last one that is left", x.get(0, 6, NONE), 6);
        due("the first one that is lost", x.get(0, 7, NONE), NO_VALUE);
        x.put(0, 7, 7);
        x.flush(1);
        x.put(0, 8, 8);
        due("crash(0)", x.crash(0), 8);
        x.put(0, 8, 8);
        x.put(0, 9, 9);
        due("crash(1)", x.crash(1), 9);
        due("get", x.get(0, 8, NONE), 8);
    }

    private static void leavesWholeTransactions() {
        for (int left = 0; left <= 4; left++) {
            Check.about("crash(" + left + ") with a transaction among records");
            Stratalog x = new Stratalog();
            x.put(0, 1, 1);
            x.begin();
            x.write(0, 1, 2, 4);
            x.write(0, 0, 2, 2);
            x.write(0, 0, 3, 3);
            due("commit", x.commit(0), DONE);
            x.put(0, 4, 5);
            due("unsure", x.unsure(), 3);
            due("crash", x.crash(left), new int[] {0, 1, 4, 5, 5}[left]);
            due("its first write", x.get(0, 2, NONE), left < 2 ? NO_VALUE : 2);
            due("its second write", x.get(0, 3, NONE), left < 2 ? NO_VALUE : 3);
            due("its last write", x.get(1, 2, NONE), left < 2 ? NO_VALUE : 4);
            due("the record behind it", x.get(0, 4, NONE), left < 3 ? NO_VALUE : 5);
        }
    }

    private static void leavesTheFirstOnes() {
        Check.about("the first ones first, of both families");
        Stratalog x = new Stratalog();
        x.put(1, 1, 1);
        x.put(0, 1, 2);
        x.add(1, 1, 10);
        x.add(0, 1, 10);
        x.clear(1, 0, 63);
        due("crash(3)", x.crash(3), 3);
        due("get of the family 0", x.get(0, 1, NONE), 2);
        due("get of the family 1", x.get(1, 1, NONE), 11);
        due("table", x.table(0), 1);
        due("the other table", x.table(1), 2);
    }

    private static void whatIsLeftIsSure() {
        Check.about("what is left is sure");
        Stratalog x = new Stratalog();
        x.put(0, 1, 1);
        x.put(0, 1, 2);
        x.put(0, 1, 3);
        due("crash(2)", x.crash(2), 2);
        due("unsure", x.unsure(), 0);
        due("sync", x.sync(), 0);
        due("crash(0)", x.crash(0), 2);
        due("get", x.get(0, 1, NONE), 2);
        due("put", x.put(0, 1, 4), 3);
        due("unsure", x.unsure(), 1);
        due("crash(0)", x.crash(0), 2);
        due("get", x.get(0, 1, NONE), 2);
    }

    private static void tablesAreMadeAnew() {
        Check.about("tables of what was not flushed");
        Stratalog x = new Stratalog();
        x.put(0, 1, 1);
        x.put(1, 1, 2);
        x.flush(0);
        x.put(0, 2, 3);
        x.clear(1, 5, 9);
        x.put(0, 3, 4);
        due("crash(2)", x.crash(2), 4);
        due("table", x.table(0), 1);
        due("the other table", x.table(1), 2);
        due("what was flushed is not in it", x.level(0, 0, 1), 1);
        due("get", x.get(0, 1, NONE), 1);
        due("get", x.get(1, 1, NONE), 2);
        due("flush", x.flush(0), 1);
        dueRun(x, 0, 0, 0, new int[] {2, 2, 1, 3});
        due("flush", x.flush(1), 1);
        dueRun(x, 1, 0, 0, new int[] {1, 9, 1, 4});
        due("flush of nothing", x.flush(0), NONE);
    }

    private static void numberGoesOnFromRuns() {
        Check.about("the last write that is left is in a run, or was");
        Stratalog x = new Stratalog();
        x.put(0, 1, 1);
        x.put(0, 2, 1);
        x.flush(0);
        x.put(0, 3, 1);
        due("in a run", x.crash(0), 2);
        x.mark(0, 2);
        x.flush(0);
        due("whole", x.whole(0), 2);
        due("the greatest number in runs", x.run(0, 3, 0, 3), 1);
        due("merged away", x.crash(0), 3);
        due("put", x.put(0, 2, 1), 4);
        due("lost", x.crash(0), 3);
        clearRun(x, 0, 0, 63);
        due("whole", x.whole(0), 1);
        due("no run is left", x.level(0, 3, 0), 0);
        due("merged away", x.crash(0), 4);
        due("merged away", x.crash(100), 4);
        due("merged away", x.cut(0, false), 4);
        due("merged away", x.cut(0, true), 4);
        due("number", x.number(), 4);
        due("put", x.put(1, 1, 1), 5);
    }

    private static void numberGoesOnFromRows() {
        Check.about("the last write that is left is taken in");
        Stratalog x = new Stratalog();
        x.put(0, 1, 1);
        takeKeys(x, 1, 5);
        x.put(0, 2, 1);
        due("taken in", x.crash(0), 2);
        due("what is ahead of it is sure", x.get(0, 1, NONE), 1);
        due("get", x.get(1, 5, NONE), 1);
        clearRun(x, 1, 0, 63);
        takeKeys(x, 1, 5);
        clearRun(x, 1, 5, 5);
        due("number", x.number(), 5);
        x.whole(1);
        due("merged away", x.crash(0), 5);
        Stratalog y = new Stratalog();
        takeKeys(y, 0, 5);
        due("nothing else", y.crash(0), 1);
        due("get", y.get(0, 5, NONE), 1);
        due("crash once more", y.crash(100), 1);
    }

    private static void numberGoesOnFromTables() {
        Check.about("the last write that is left is in a record");
        Stratalog x = new Stratalog();
        x.put(0, 1, 1);
        x.flush(0);
        x.put(1, 1, 1);
        x.put(1, 2, 1);
        due("crash(1)", x.crash(1), 2);
        x.sync();
        x.put(0, 1, 1);
        due("crash(0)", x.crash(0), 2);
        due("number", x.number(), 2);
    }

    private static void numbersAreGivenAnew() {
        Check.about("numbers of what is lost are given anew");
        Stratalog x = new Stratalog();
        x.put(0, 5, 1);
        x.sync();
        x.put(0, 5, 2);
        x.put(0, 6, 2);
        x.crash(0);
        due("snapshot", x.snapshot(), 0);
        x.begin();
        x.read(0, 0, 5);
        x.read(0, 0, 6);
        due("put", x.put(0, 7, 3), 2);
        due("what was lost is no conflict", x.commit(0), DONE);
        due("get by the snapshot", x.get(0, 7, 0), NO_VALUE);
        due("get", x.get(0, 7, NONE), 3);
        due("put", x.put(0, 5, 4), 3);
        x.begin();
        x.read(1, 0, 5);
        due("what is ahead of it is no conflict", x.commit(1), DONE);
        x.begin();
        x.read(2, 0, 5);
        x.add(0, 5, 1);
        due("what is behind it is", x.commit(2), CONFLICT);
        x.flush(0);
        due("whole", x.whole(0), 1);
        due("get", x.get(0, 5, NONE), 5);
        due("get by the snapshot", x.get(0, 5, 0), 1);
    }

    private static void numbersBeginAnew() {
        Check.about("all is lost");
        Stratalog x = new Stratalog();
        x.put(0, 0, 1);
        x.clear(1, 0, 63);
        due("crash", x.crash(0), 0);
        due("number", x.number(), 0);
        x.begin();
        x.snapshot();
        for (int family = 0; family < 2; family++) {
            x.read(0, family, 0);
            x.read(0, family, 63);
        }
        due("nothing was written", x.commit(0), DONE);
        due("put", x.put(0, 0, 2), 1);
        due("get by the number 0", x.get(0, 0, 0), NO_VALUE);
        x.begin();
        x.read(1, 0, 0);
        due("nothing was written since", x.commit(1), DONE);
    }

    private static void draftStays() {
        Script[] crashes = {x -> x.crash(0), x -> x.crash(100), x -> x.cut(0, true), x -> x.cut(1, false)};
        for (Script crash : crashes) {
            Check.about("rows that are drafted stay");
            Stratalog x = new Stratalog();
            x.put(0, 1, 1);
            x.row(5, 7);
            crash.on(x);
            Check.throwsArgument("row at the last one's key", () -> x.row(5, 1));
            due("row", x.row(6, 8), 2);
            crash.on(x);
            int number = x.number();
            due("take", x.take(0), 3);
            dueRun(x, 0, 3, 0, new int[] {5, 6, 2, number + 1});
            dueValues(x, 0, 5, NONE, 7, 8);
        }
    }

    private static void runsStay() {
        Check.about("runs stay");
        Stratalog x = new Stratalog();
        takeKeys(x, 0, 0, 63);
        takeKeys(x, 0, 0, 63);
        takeKeys(x, 0, 5);
        x.put(0, 7, 1);
        x.clear(0, 9, 12);
        x.flush(0);
        x.put(0, 8, 1);
        x.crash(0);
        dueLevel(x, 0, 0, new int[] {1, 1, 1, 25});
        dueRuns(x, 0, 1, new int[][] {{5, 5, 1}});
        dueRuns(x, 0, 2, new int[][] {{0, 63, 2}});
        dueRuns(x, 0, 3, new int[][] {{0, 63, 2}});
        due("get", x.get(0, 7, NONE), 1);
    }

    // ---- sync and unsure

    private static void syncCounts() {
        Check.about("how many records were not sure");
        Stratalog x = new Stratalog();
        due("none", x.sync(), 0);
        x.put(0, 1, 1);
        due("one", x.sync(), 1);
        due("none", x.sync(), 0);
        x.mark(0, 1);
        x.add(1, 1, 1);
        x.clear(1, 1, 1);
        due("three", x.sync(), 3);
        due("none", x.sync(), 0);
        putMany(x, 0, 38);
        putMany(x, 1, 38);
        due("seventy-six", x.sync(), 76);
        due("unsure", x.unsure(), 0);
        due("number", x.crash(0), 80);
        due("tables", x.table(0) + x.table(1), 80);
        due("a crash syncs", x.sync(), 0);
    }

    private static void unsureCounts() {
        Check.about("how many records are not sure");
        Stratalog x = new Stratalog();
        due("none", x.unsure(), 0);
        x.put(0, 1, 1);
        due("a PUT", x.unsure(), 1);
        x.mark(1, 1);
        due("a MARK", x.unsure(), 2);
        x.add(0, 1, 1);
        due("an ADD", x.unsure(), 3);
        x.clear(0, 0, 63);
        due("a CLEAR", x.unsure(), 4);
        x.begin();
        x.write(0, 0, 1, 1);
        x.write(0, 0, 2, 1);
        x.write(0, 1, 2, 1);
        due("what waits is no record", x.unsure(), 4);
        x.commit(0);
        due("a transaction", x.unsure(), 5);
        x.begin();
        x.read(1, 0, 1);
        x.commit(1);
        due("a transaction without writes", x.unsure(), 5);
        x.begin();
        x.read(2, 0, 1);
        x.write(2, 0, 5, 1);
        x.put(0, 1, 1);
        due("a PUT", x.unsure(), 6);
        x.commit(2);
        due("a conflict", x.unsure(), 6);
        x.row(5, 1);
        x.snapshot();
        x.release(0);
        x.get(0, 1, NONE);
        due("nothing else", x.unsure(), 6);
        due("sync", x.sync(), 6);
        due("none", x.unsure(), 0);
    }

    private static void whatSyncs() {
        dueUnsure("a flush", 0, x -> x.flush(0));
        dueUnsure("a flush of the other family", 0, x -> x.flush(1));
        dueUnsure("taking in", 0, x -> takeKeys(x, 0, 5));
        dueUnsure("taking in with a flush", 0, x -> takeKeys(x, 0, 1));
        dueUnsure("taking in by the other family", 0, x -> takeKeys(x, 1, 1));
        dueUnsure("sync", 0, x -> x.sync());
        dueUnsure("whole", 2, x -> x.whole(0));
        dueUnsure("compact", 2, x -> x.compact(0));
        dueUnsure("a snapshot", 2, x -> x.snapshot());
        dueUnsure("begin", 2, x -> x.begin());
        dueUnsure("drafting", 2, x -> x.row(1, 1));
    }

    private static void dueUnsure(String what, int want, Script script) {
        Check.about("unsure after " + what);
        Stratalog x = new Stratalog();
        for (int i = 0; i < 4; i++) {
            oneRun(x, 0, 10);
        }
        x.put(0, 1, 1);
        x.put(0, 2, 1);
        script.on(x);
        due("unsure", x.unsure(), want);
        int number = x.number();
        due("crash", x.crash(0), number - want);
        due("get", x.get(0, 2, NONE), want == 0 ? 1 : NO_VALUE);
    }

    // ---- cut

    private static void cutOfAFlush() {
        for (int family = 0; family < 2; family++) {
            Check.about("cut of a flush of the family " + family);
            Stratalog x = new Stratalog();
            x.put(0, 1, 1);
            x.sync();
            x.put(0, 2, 2);
            x.put(1, 2, 2);
            x.clear(0, 1, 1);
            due("cut", x.cut(family, true), 4);
            due("number", x.number(), 4);
            due("unsure", x.unsure(), 0);
            due("table", x.table(0), 3);
            due("the other table", x.table(1), 1);
            due("no run is made", x.level(0, 0, 0) + x.level(1, 0, 0), 0);
            due("get", x.get(0, 2, NONE), 2);
            due("get", x.get(0, 1, NONE), NO_VALUE);
            due("crash", x.crash(0), 4);
            due("put", x.put(0, 3, 3), 5);
            due("flush", x.flush(0), 3);
        }
        Check.about("cut of a flush of an empty table");
        Stratalog y = new Stratalog();
        due("cut", y.cut(0, true), 0);
        y.put(1, 1, 1);
        due("a flush syncs first", y.cut(0, true), 1);
        due("table", y.table(1), 1);
    }

    private static void cutOfACompaction() {
        for (int family = 0; family < 2; family++) {
            Check.about("cut of a compaction of the family " + family);
            Stratalog x = new Stratalog();
            x.put(0, 1, 1);
            x.sync();
            x.put(0, 2, 2);
            x.put(1, 2, 2);
            x.clear(0, 1, 1);
            due("cut", x.cut(family, false), 1);
            due("number", x.number(), 1);
            due("unsure", x.unsure(), 0);
            due("table", x.table(0), 1);
            due("the other table", x.table(1), 0);
            due("get", x.get(0, 2, NONE), NO_VALUE);
            due("get", x.get(0, 1, NONE), 1);
            due("put", x.put(0, 3, 3), 2);
        }
    }

    private static void cutLeavesRunsAsTheyWere() {
        for (boolean isFlush : new boolean[] {true, false}) {
            Check.about("as if it had not been begun, " + (isFlush ? "a flush" : "a compaction"));
            Stratalog x = new Stratalog();
            footing(x, 0);
            takeOf(x, 0, 10, 21, 1);
            takeOf(x, 0, 30, 41, 1);
            for (int i = 0; i < 4; i++) {
                oneRun(x, 0, 50);
            }
            x.put(0, 51, 1);
            x.sync();
            int number = x.number();
            due("cut", x.cut(0, isFlush), number);
            dueLevel(x, 0, 0, new int[] {4, 4, 0, 100});
            dueRuns(x, 0, 1, new int[][] {{10, 21, 12}, {30, 41, 12}});
            dueRuns(x, 0, 2, new int[][] {{0, 63, 2}});
            dueRuns(x, 0, 3, new int[][] {{0, 63, 2}});
            due("table", x.table(0), 1);
            due("compact", x.compact(0), 1);
            dueRuns(x, 0, 1, new int[][] {{30, 41, 12}});
            due("cut", x.cut(0, isFlush), number);
            due("compact", x.compact(0), 0);
        }
    }

    private static void cutEndsViews() {
        for (boolean isFlush : new boolean[] {true, false}) {
            Check.about("a cut is a crash");
            Stratalog x = new Stratalog();
            x.put(0, 1, 1);
            x.snapshot();
            x.begin();
            x.write(0, 0, 1, 5);
            x.put(0, 1, 2);
            x.flush(0);
            x.cut(1, isFlush);
            Check.throwsIndex("get", () -> x.get(0, 1, 0));
            Check.throwsIndex("commit", () -> x.commit(0));
            due("nothing pins", x.whole(0), 1);
            due("snapshot", x.snapshot(), 1);
            due("begin", x.begin(), 1);
            due("get", x.get(0, 1, NONE), 2);
        }
    }

    private static void firstWritesAreLost() {
        Script[] writes = {x -> x.put(0, 5, 1), x -> x.mark(0, 5), x -> x.add(0, 5, 1), x -> x.clear(0, 5, 5)};
        for (int i = 0; i < writes.length; i++) {
            Check.about("the very first write is lost: " + i);
            Stratalog x = new Stratalog();
            writes[i].on(x);
            due("crash", x.crash(0), 0);
            due("number", x.number(), 0);
            due("table", x.table(0), 0);
            due("flush", x.flush(0), NONE);
            due("put", x.put(0, 5, 3), 1);
            due("get", x.get(0, 5, NONE), 3);
            due("table", x.table(0), 1);
        }
    }
}
