/** The edges of snapshots and of transactions. */
public final class ViewTests extends TestBase {
    private ViewTests() {
    }

    public static void main(String[] args) {
        thirtySnapshots();
        snapshotsThatEnded();
        snapshotOfTheLatestWrite();
        releaseOfOneOfTwo();
        thirtyTransactions();
        transactionsThatAreOver();
        readsByItsNumber();
        readsWhatWaits();
        howManyWait();
        conflictsByWrites();
        conflictsAtTheEndsOfClears();
        conflictsByRows();
        conflictsBesideRows();
        conflictsByNumbers();
        conflictsWhateverHasBecome();
        conflictsOfReads();
        conflictsAtAllEnds();
        conflictsAmongTransactions();
        conflictWritesNothing();
        commitOfNothing();
        commitOfAllKeys();
        commitInOrder();
        commitByPressure();
        commitByPressureOfRuns();
        commitReachesThePressure();
        commitBesideThePressure();
        commitOfMarks();
        viewsOfGreatNumbers();
        System.out.println("ViewTests");
        Check.end();
    }

    // ---- snapshots

    private static void thirtySnapshots() {
        Check.about("at most 30 snapshots ever");
        Stratalog x = new Stratalog();
        for (int s = 0; s < 30; s++) {
            due("snapshot", x.snapshot(), s);
        }
        Check.throwsState("the 31st", x::snapshot);
        x.release(0);
        Check.throwsState("a released one gives no place", x::snapshot);
        for (int s = 1; s < 30; s++) {
            x.release(s);
        }
        Check.throwsState("nor do all", x::snapshot);
        x.crash(0);
        Check.throwsState("nor does a crash", x::snapshot);
        x.cut(0, false);
        Check.throwsState("nor another one", x::snapshot);
        due("a transaction is none", x.begin(), 0);

        Stratalog y = new Stratalog();
        for (int s = 0; s < 29; s++) {
            due("snapshot", y.snapshot(), s);
            y.release(s);
        }
        y.crash(0);
        due("the 30th", y.snapshot(), 29);
        Check.throwsIndex("the 29th has ended", () -> y.get(0, 0, 28));
        due("get by the 30th", y.get(0, 0, 29), NO_VALUE);
        Check.throwsState("the 31st", y::snapshot);
        Check.throwsIndex("release of the 31st", () -> y.release(30));
    }

    private static void snapshotsThatEnded() {
        Check.about("they end when they are released, or by a crash");
        Script[] ends = {
            x -> x.release(0), x -> x.crash(0), x -> x.crash(100), x -> x.cut(0, true), x -> x.cut(1, false)};
        for (Script end : ends) {
            Stratalog x = new Stratalog();
            x.put(0, 5, 1);
            x.sync();
            due("snapshot", x.snapshot(), 0);
            due("get", x.get(0, 5, 0), 1);
            end.on(x);
            Check.throwsIndex("get", () -> x.get(0, 5, 0));
            Check.throwsIndex("next", () -> x.next(0, 5, true, 0));
            Check.throwsIndex("pins", () -> x.pins(0));
            Check.throwsIndex("release", () -> x.release(0));
            due("the next one", x.snapshot(), 1);
            due("get by it", x.get(0, 5, 1), 1);
            Check.throwsIndex("still", () -> x.get(0, 5, 0));
        }
    }

    private static void snapshotOfTheLatestWrite() {
        Check.about("a snapshot is of the number of the latest write");
        Stratalog x = new Stratalog();
        x.snapshot();
        x.put(1, 5, 1);
        x.snapshot();
        x.put(0, 5, 2);
        x.snapshot();
        x.snapshot();
        x.put(0, 5, 3);
        due("ahead of all", x.get(1, 5, 0), NO_VALUE);
        due("of the first write", x.get(1, 5, 1), 1);
        due("ahead of the second write", x.get(0, 5, 1), NO_VALUE);
        due("of the second write", x.get(0, 5, 2), 2);
        due("of the second write, too", x.get(0, 5, 3), 2);
        x.row(5, 4);
        x.snapshot();
        x.take(0);
        x.snapshot();
        due("ahead of rows", x.get(0, 5, 4), 3);
        due("of rows", x.get(0, 5, 5), 4);
        due("number", x.number(), 4);
        due("unsure", x.unsure(), 0);
    }

    private static void releaseOfOneOfTwo() {
        Check.about("release of one of two with one number");
        Stratalog x = new Stratalog();
        x.put(0, 5, 1);
        x.snapshot();
        x.snapshot();
        x.put(0, 5, 2);
        x.flush(0);
        x.release(0);
        due("whole", x.whole(0), 0);
        due("by the other one", x.get(0, 5, 1), 1);
        Check.throwsIndex("by the released one", () -> x.get(0, 5, 0));
        x.release(1);
        due("whole", x.whole(0), 1);
    }

    // ---- transactions

    private static void thirtyTransactions() {
        Check.about("at most 30 transactions ever");
        Stratalog x = new Stratalog();
        for (int t = 0; t < 30; t++) {
            due("begin", x.begin(), t);
        }
        Check.throwsState("the 31st", x::begin);
        due("commit", x.commit(0), DONE);
        Check.throwsState("one that is over gives no place", x::begin);
        due("commit of the last one", x.commit(29), DONE);
        x.crash(0);
        Check.throwsState("nor does a crash", x::begin);
        x.cut(0, true);
        Check.throwsState("nor another one", x::begin);
        due("a snapshot is none", x.snapshot(), 0);

        Stratalog y = new Stratalog();
        for (int t = 0; t < 29; t++) {
            due("begin", y.begin(), t);
            due("commit", y.commit(t), DONE);
        }
        y.crash(0);
        due("the 30th", y.begin(), 29);
        due("write by it", y.write(29, 0, 5, 1), 1);
        Check.throwsState("the 31st", y::begin);
        Check.throwsIndex("commit of the 31st", () -> y.commit(30));
        due("commit of the 30th", y.commit(29), DONE);
        due("get", y.get(0, 5, NONE), 1);
    }

    private static void transactionsThatAreOver() {
        Check.about("it is over then, in both cases, and by a crash");
        Script[] ends = {
            x -> due("commit", x.commit(0), DONE),
            x -> { x.read(0, 0, 5); x.put(0, 5, 2); due("commit", x.commit(0), CONFLICT); },
            x -> x.crash(0), x -> x.crash(100), x -> x.cut(0, true), x -> x.cut(1, false)};
        for (Script end : ends) {
            Stratalog x = new Stratalog();
            x.begin();
            x.write(0, 0, 7, 1);
            end.on(x);
            Check.throwsIndex("read", () -> x.read(0, 0, 7));
            Check.throwsIndex("write", () -> x.write(0, 0, 7, 1));
            Check.throwsIndex("commit", () -> x.commit(0));
            due("the next one", x.begin(), 1);
            due("nothing waits in it", x.write(1, 0, 8, 1), 1);
            due("commit", x.commit(1), DONE);
            Check.throwsIndex("still", () -> x.commit(0));
        }
        Stratalog lost = new Stratalog();
        lost.begin();
        lost.write(0, 0, 7, 1);
        lost.crash(100);
        due("what waited is not written", lost.number(), 0);
        due("table", lost.table(0), 0);
    }

    private static void readsByItsNumber() {
        Check.about("it reads by the number of the latest write then");
        Stratalog x = new Stratalog();
        x.begin();
        x.put(0, 5, 1);
        x.begin();
        x.add(0, 5, 1);
        x.begin();
        x.clear(0, 0, 63);
        x.begin();
        takeKeys(x, 0, 5);
        x.begin();
        x.put(1, 5, 9);
        int[] want = {NO_VALUE, 1, 2, NO_VALUE, 1};
        for (int round = 0; round < 3; round++) {
            for (int t = 0; t < want.length; t++) {
                due("read by " + t, x.read(t, 0, 5), want[t]);
                due("read by " + t + " in the other family", x.read(t, 1, 5), NO_VALUE);
            }
            if (round == 0) {
                x.flush(0);
                x.flush(1);
            } else {
                x.whole(0);
                x.whole(1);
            }
        }
    }

    private static void readsWhatWaits() {
        Check.about("but sees what waits in it, first");
        Stratalog x = new Stratalog();
        x.put(0, 5, 1);
        x.put(1, 5, 2);
        x.begin();
        x.begin();
        x.write(0, 0, 5, 7);
        due("what waits", x.read(0, 0, 5), 7);
        due("in the other family", x.read(0, 1, 5), 2);
        due("by another transaction", x.read(1, 0, 5), 1);
        due("now", x.get(0, 5, NONE), 1);
        x.write(0, 0, 5, NO_VALUE);
        due("a MARK that waits", x.read(0, 0, 5), NO_VALUE);
        x.write(0, 0, 5, 0);
        due("a 0 that waits", x.read(0, 0, 5), 0);
        x.write(0, 1, 0, 3);
        due("the key 0 of the other family", x.read(0, 1, 0), 3);
        due("the key 63 of the family 0", x.read(0, 0, 63), NO_VALUE);
        x.put(0, 5, 4);
        due("whatever is written", x.read(0, 0, 5), 0);
        due("commit", x.commit(0), DONE);
        due("then", x.get(0, 5, NONE), 0);
    }

    private static void howManyWait() {
        Check.about("how many wait then");
        Stratalog x = new Stratalog();
        x.begin();
        x.begin();
        int count = 0;
        for (int family = 1; family >= 0; family--) {
            for (int key = 63; key >= 0; key--) {
                count++;
                due("write", x.write(0, family, key, key), count);
            }
        }
        due("in place of one", x.write(0, 0, 0, NO_VALUE), 128);
        due("in place of one", x.write(0, 1, 63, -5), 128);
        due("in another transaction", x.write(1, 0, 0, 1), 1);
        due("the same there", x.write(1, 0, 0, NO_VALUE), 1);
        due("the other family there", x.write(1, 1, 0, NO_VALUE), 2);
        due("nothing is written", x.number(), 0);
        due("nothing is unsure", x.unsure(), 0);
        due("table", x.table(0) + x.table(1), 0);
    }

    /** Reads the key 5 in a transaction that begins at the number 1; then something happens, and it is committed. */
    private static void dueCommit(String what, int want, Script happening) {
        Check.about("commit after " + what);
        Stratalog x = new Stratalog();
        x.put(0, 5, 1);
        x.begin();
        due("read", x.read(0, 0, 5), 1);
        happening.on(x);
        due("commit", x.commit(0), want);
        Check.throwsIndex("it is over", () -> x.commit(0));
    }

    private static void conflictsByWrites() {
        dueCommit("nothing", DONE, x -> { });
        dueCommit("a PUT", CONFLICT, x -> x.put(0, 5, 2));
        dueCommit("a PUT of the same value", CONFLICT, x -> x.put(0, 5, 1));
        dueCommit("a MARK", CONFLICT, x -> x.mark(0, 5));
        dueCommit("an ADD", CONFLICT, x -> x.add(0, 5, 1));
        dueCommit("an ADD of 0", CONFLICT, x -> x.add(0, 5, 0));
        dueCommit("a CLEAR", CONFLICT, x -> x.clear(0, 5, 5));
        dueCommit("a PUT ahead of it", DONE, x -> x.put(0, 4, 1));
        dueCommit("a PUT behind it", DONE, x -> x.put(0, 6, 1));
        dueCommit("all of that in the other family", DONE, x -> {
            x.put(1, 5, 1);
            x.mark(1, 5);
            x.add(1, 5, 1);
            x.clear(1, 0, 63);
            takeKeys(x, 1, 4, 5, 6);
        });
        dueCommit("a refused PUT", DONE, x -> {
            for (int i = 0; i < 39; i++) {
                x.put(0, 40, i);
            }
            Check.throwsState("put", () -> x.put(0, 5, 2));
            Check.throwsState("clear", () -> x.clear(0, 0, 63));
        });
        dueCommit("a PUT behind many others", CONFLICT, x -> {
            for (int i = 0; i < 30; i++) {
                x.put(0, 40, i);
            }
            x.put(0, 5, 2);
            x.put(0, 40, 1);
        });
    }

    private static void conflictsAtTheEndsOfClears() {
        int[][] ranges = {{0, 4}, {0, 5}, {4, 5}, {5, 5}, {5, 6}, {5, 63}, {6, 63}, {4, 4}, {6, 6}, {0, 63}};
        for (int[] range : ranges) {
            boolean isIn = range[0] <= 5 && range[1] >= 5;
            String what = "a CLEAR of " + range[0] + " to " + range[1];
            dueCommit(what, isIn ? CONFLICT : DONE, x -> x.clear(0, range[0], range[1]));
        }
    }

    private static void conflictsByRows() {
        dueCommit("a row", CONFLICT, x -> takeKeys(x, 0, 5));
        dueCommit("rows that begin there", CONFLICT, x -> takeKeys(x, 0, 5, 9));
        dueCommit("rows that end there", CONFLICT, x -> takeKeys(x, 0, 0, 5));
        dueCommit("a row among others", CONFLICT, x -> takeKeys(x, 0, 4, 5, 6));
        dueCommit("rows around it", DONE, x -> takeKeys(x, 0, 4, 6));
        dueCommit("rows around it, all others", DONE, x -> takeKeys(x, 0, 0, 1, 2, 3, 4, 6, 63));
        dueCommit("a row that is drafted alone", DONE, x -> x.row(5, 1));
        dueCommit("a row in the other family", DONE, x -> takeKeys(x, 1, 5));
        dueCommit("a row upon what was flushed", CONFLICT, x -> { x.flush(0); takeKeys(x, 0, 5); });
    }

    private static void conflictsBesideRows() {
        Check.about("rows at other keys");
        for (int family = 0; family < 2; family++) {
            Stratalog x = new Stratalog();
            takeKeys(x, family, 3, 5, 7, 9);
            x.begin();
            x.begin();
            for (int key = 0; key < 64; key++) {
                if (key != 4) {
                    x.read(0, family, key);
                }
                x.read(1, 1 - family, key);
            }
            due("one row, fewer than were taken in ahead", takeKeys(x, family, 4), 2);
            due("commit of one that read all others", x.commit(0), DONE);
            due("commit of one that read the other family", x.commit(1), DONE);
            x.begin();
            x.read(2, family, 4);
            x.begin();
            x.read(3, family, 63);
            takeKeys(x, family, 0, 4, 62);
            due("commit of one that read a key of them", x.commit(2), CONFLICT);
            due("commit of one that read the key behind them", x.commit(3), DONE);
        }
    }

    private static void conflictsByNumbers() {
        Check.about("since it was begun");
        Stratalog x = new Stratalog();
        x.put(0, 5, 1);
        x.begin();
        x.put(0, 6, 1);
        x.begin();
        x.put(0, 7, 1);
        x.begin();
        for (int t = 0; t < 3; t++) {
            x.read(t, 0, 6);
        }
        due("written right behind its number", x.commit(0), CONFLICT);
        due("written at its number", x.commit(1), DONE);
        due("written ahead of it", x.commit(2), DONE);
        x.begin();
        x.put(0, 9, 1);
        x.read(3, 0, 9);
        due("written since it began, ahead of the reading", x.commit(3), CONFLICT);
        x.begin();
        takeKeys(x, 0, 9);
        x.begin();
        x.read(4, 0, 9);
        x.read(5, 0, 9);
        due("rows right behind its number", x.commit(4), CONFLICT);
        due("rows at its number", x.commit(5), DONE);
    }

    private static void conflictsWhateverHasBecome() {
        dueCommit("a PUT that was merged away", CONFLICT, x -> {
            x.put(0, 5, 2);
            x.clear(0, 5, 5);
            x.flush(0);
            x.whole(0);
        });
        dueCommit("a MARK that was merged away", CONFLICT, x -> {
            x.flush(0);
            x.mark(0, 5);
            x.flush(0);
            x.whole(0);
        });
        dueCommit("an ADD that was folded", CONFLICT, x -> {
            x.add(0, 5, 1);
            x.put(0, 5, 1);
            x.flush(0);
            x.whole(0);
        });
        dueCommit("a CLEAR that was dropped", CONFLICT, x -> {
            x.clear(0, 0, 63);
            x.put(0, 6, 1);
            x.flush(0);
            x.whole(0);
        });
        dueCommit("a PUT that was flushed", CONFLICT, x -> { x.put(0, 5, 2); x.flush(0); });
        dueCommit("rows that were merged away", CONFLICT, x -> {
            takeKeys(x, 0, 5);
            clearRun(x, 0, 5, 5);
            x.whole(0);
        });
        dueCommit("a flush and merging alone", DONE, x -> { x.flush(0); x.whole(0); x.compact(0); });
    }

    private static void conflictsOfReads() {
        Check.about("no key that it read, and found no writing of its own at");
        Stratalog x = new Stratalog();
        x.put(0, 5, 1);
        for (int t = 0; t < 8; t++) {
            x.begin();
        }
        x.write(0, 0, 5, 2);
        x.read(0, 0, 5);
        x.read(1, 0, 5);
        x.write(1, 0, 5, 2);
        x.read(1, 0, 5);
        x.write(2, 0, 5, NO_VALUE);
        x.read(2, 0, 5);
        x.read(3, 0, 6);
        x.write(4, 0, 5, 2);
        x.get(0, 5, NONE);
        x.next(0, 0, true, NONE);
        x.read(5, 1, 5);
        Check.throwsArgument("read", () -> x.read(6, 0, 64));
        Check.throwsArgument("read", () -> x.read(6, -1, 5));
        x.read(7, 0, 5);
        x.read(7, 0, 8);
        x.put(0, 5, 3);
        due("read after its own writing", x.commit(0), DONE);
        due("read ahead of its own writing", x.commit(1), CONFLICT);
        due("read after its own MARK", x.commit(2), DONE);
        due("read another key", x.commit(3), DONE);
        due("read nothing", x.commit(4), DONE);
        due("read it in the other family", x.commit(5), DONE);
        due("reads that threw", x.commit(6), DONE);
        due("read one of two", x.commit(7), CONFLICT);
        Stratalog y = new Stratalog();
        y.begin();
        y.begin();
        due("read without a value", y.read(0, 0, 5), NO_VALUE);
        y.read(1, 0, 5);
        y.mark(0, 5);
        due("that is read, too", y.commit(0), CONFLICT);
        y.read(1, 0, 5);
        y.read(1, 0, 5);
        due("read many times", y.commit(1), CONFLICT);
    }

    private static void conflictsAtAllEnds() {
        Check.about("the keys 0 and 63 of both families");
        for (int family = 0; family < 2; family++) {
            for (int key : new int[] {0, 63}) {
                for (int f = 0; f < 2; f++) {
                    for (int k : new int[] {0, 63}) {
                        Stratalog x = new Stratalog();
                        x.begin();
                        x.read(0, family, key);
                        x.put(f, k, 1);
                        boolean isSame = f == family && k == key;
                        String what = family + ", " + key + " read and " + f + ", " + k + " written";
                        due(what, x.commit(0), isSame ? CONFLICT : DONE);
                    }
                }
            }
        }
    }

    private static void conflictsAmongTransactions() {
        Check.about("written by another transaction");
        Stratalog x = new Stratalog();
        for (int t = 0; t < 6; t++) {
            x.begin();
            x.read(t, 0, 5);
        }
        x.write(0, 0, 6, 1);
        due("it wrote another key", x.commit(0), DONE);
        x.write(1, 0, 5, 1);
        due("the first one that writes it", x.commit(1), DONE);
        x.write(2, 0, 5, 2);
        due("the second one", x.commit(2), CONFLICT);
        due("get", x.get(0, 5, NONE), 1);
        due("one that reads alone", x.commit(3), CONFLICT);
        x.begin();
        x.read(6, 0, 5);
        x.write(6, 0, 5, 3);
        due("one that began since", x.commit(6), DONE);
        due("get", x.get(0, 5, NONE), 3);
        Stratalog y = new Stratalog();
        y.begin();
        y.begin();
        y.read(0, 0, 5);
        y.read(1, 0, 5);
        y.read(0, 0, 6);
        y.write(0, 0, 5, NO_VALUE);
        y.put(0, 6, 1);
        due("a conflict", y.commit(0), CONFLICT);
        due("what a conflict would have written was not", y.commit(1), DONE);
    }

    private static void conflictWritesNothing() {
        Check.about("otherwise it is a CONFLICT");
        Stratalog x = new Stratalog();
        x.begin();
        x.read(0, 0, 5);
        x.write(0, 0, 7, 7);
        x.write(0, 1, 7, 7);
        x.put(0, 5, 1);
        due("commit", x.commit(0), CONFLICT);
        due("number", x.number(), 1);
        due("unsure", x.unsure(), 1);
        due("table", x.table(0), 1);
        due("the other table", x.table(1), 0);
        due("get", x.get(0, 7, NONE), NO_VALUE);
        x.put(0, 5, 2);
        x.flush(0);
        due("it pins nothing", x.whole(0), 1);
    }

    private static void commitOfNothing() {
        Check.about("commit without writes");
        Stratalog x = new Stratalog();
        x.put(0, 5, 1);
        x.begin();
        due("commit of an empty one", x.commit(0), DONE);
        x.begin();
        x.read(1, 0, 5);
        due("commit of one that read", x.commit(1), DONE);
        due("number", x.number(), 1);
        due("unsure", x.unsure(), 1);
        due("table", x.table(0), 1);
        x.begin();
        x.put(0, 5, 2);
        x.flush(0);
        due("one that is not over pins", x.whole(0), 0);
        due("commit", x.commit(2), DONE);
        due("one that is over does not", x.whole(0), 1);
    }

    private static void commitOfAllKeys() {
        Check.about("commit of all keys");
        Stratalog x = new Stratalog();
        x.put(1, 0, 9);
        x.begin();
        for (int family = 1; family >= 0; family--) {
            for (int key = 63; key >= 0; key--) {
                x.write(0, family, key, key == 63 ? NO_VALUE : 100 * family + key);
            }
        }
        due("commit", x.commit(0), DONE);
        due("number", x.number(), 129);
        due("one record", x.unsure(), 2);
        due("table", x.table(0), 64);
        due("the other table", x.table(1), 65);
        due("pressure", x.pressure(0), 2);
        due("flush", x.flush(0), 64);
        due("flush", x.flush(1), 65);
        dueRun(x, 0, 0, 0, new int[] {0, 63, 64, 65});
        dueRun(x, 1, 0, 0, new int[] {0, 63, 65, 129});
        dueValues(x, 0, 0, NONE, 0, 1, 2);
        dueValues(x, 1, 0, NONE, 100, 101, 102);
        dueValues(x, 0, 62, NONE, 62, NO_VALUE);
        dueValues(x, 1, 62, NONE, 162, NO_VALUE);
    }

    private static void commitInOrder() {
        Check.about("by rising families, then keys");
        Stratalog x = new Stratalog();
        x.begin();
        int[][] slots = {{1, 3}, {0, 63}, {1, 0}, {0, 7}};
        for (int i = 0; i < slots.length; i++) {
            due("write", x.write(0, slots[i][0], slots[i][1], i), i + 1);
        }
        x.write(0, 0, 63, 8);
        due("commit", x.commit(0), DONE);
        x.flush(0);
        x.flush(1);
        due("the greatest number of the family 0", x.run(0, 0, 0, 3), 2);
        due("the greatest number of the family 1", x.run(1, 0, 0, 3), 4);
        x.mark(0, 63);
        x.mark(1, 3);
        x.flush(0);
        x.flush(1);
        x.whole(0);
        x.whole(1);
        due("the number of the key 7", x.run(0, 3, 0, 3), 1);
        due("the number of the key 0", x.run(1, 3, 0, 3), 3);
        due("what took the place", x.get(0, 7, NONE), 3);
    }

    // ---- pressure

    private static void commitByPressure() {
        Check.about("something waits for a family with the pressure 2");
        Stratalog x = new Stratalog();
        for (int t = 0; t < 6; t++) {
            x.begin();
        }
        x.write(0, 0, 63, 1);
        x.write(1, 1, 63, 1);
        x.write(2, 1, 0, 1);
        x.write(2, 0, 0, 1);
        x.read(3, 0, 5);
        x.read(4, 0, 5);
        x.write(4, 0, 6, 1);
        for (int i = 0; i < 40; i++) {
            x.put(0, 5, i);
        }
        Check.throwsState("for it alone", () -> x.commit(0));
        due("for the other one alone", x.commit(1), DONE);
        Check.throwsState("for both", () -> x.commit(2));
        due("for none, with a conflict", x.commit(3), CONFLICT);
        Check.throwsState("for it, with a conflict", () -> x.commit(4));
        due("for none", x.commit(5), DONE);
        due("number", x.number(), 41);
        due("unsure", x.unsure(), 41);
        Check.throwsIndex("one that is over", () -> x.commit(3));
        x.flush(0);
        due("once it is flushed", x.commit(0), DONE);
        due("once it is flushed", x.commit(2), DONE);
        due("the conflict then", x.commit(4), CONFLICT);
        due("number", x.number(), 44);
        due("unsure", x.unsure(), 2);
    }

    private static void commitByPressureOfRuns() {
        Check.about("something waits for a family with 6 runs");
        Stratalog x = new Stratalog();
        x.begin();
        x.write(0, 1, 0, 1);
        for (int i = 0; i < 5; i++) {
            oneRun(x, 1, i);
        }
        x.begin();
        x.write(1, 1, 0, 2);
        due("with 5 runs", x.commit(0), DONE);
        x.flush(1);
        Check.throwsState("with 6 runs", () -> x.commit(1));
        due("compact", x.compact(1), 0);
        due("with none", x.commit(1), DONE);
    }

    private static void commitBesideThePressure() {
        Check.about("each key of the family without pressure");
        for (int family = 0; family < 2; family++) {
            for (int key : new int[] {0, 1, 62, 63}) {
                Stratalog x = new Stratalog();
                putMany(x, family, 40);
                x.begin();
                x.write(0, 1 - family, key, 1);
                due("commit for " + key, x.commit(0), DONE);
                due("get", x.get(1 - family, key, NONE), 1);
                x.begin();
                x.write(1, family, key, 1);
                int f = family;
                Check.throwsState("commit for the other family", () -> x.commit(1));
                due("write", x.write(1, f, key, 2), 1);
            }
        }
    }

    private static void commitOfMarks() {
        Check.about("a MARK that a transaction writes");
        Stratalog x = new Stratalog();
        x.put(0, 5, 1);
        x.put(1, 5, 1);
        x.begin();
        x.write(0, 0, 5, NO_VALUE);
        x.write(0, 1, 5, NO_VALUE);
        x.write(0, 1, 6, NO_VALUE);
        due("commit", x.commit(0), DONE);
        due("get", x.get(0, 5, NONE), NO_VALUE);
        x.add(0, 5, 3);
        x.add(1, 6, 4);
        due("with an ADD above it", x.get(0, 5, NONE), 3);
        due("without one", x.get(1, 5, NONE), NO_VALUE);
        due("upon nothing, with an ADD above it", x.get(1, 6, NONE), 4);
        x.flush(0);
        due("whole", x.whole(0), 2);
        due("with an ADD above it", x.get(0, 5, NONE), 3);
        x.flush(1);
        due("whole", x.whole(1), 3);
        due("upon nothing, with an ADD above it", x.get(1, 6, NONE), 4);
    }

    private static void commitReachesThePressure() {
        Check.about("a commit that goes beyond the pressure");
        Stratalog x = new Stratalog();
        putMany(x, 0, 39);
        x.begin();
        for (int key = 0; key < 30; key++) {
            x.write(0, 0, key, 1);
        }
        due("commit at 39", x.commit(0), DONE);
        due("table", x.table(0), 69);
        x.begin();
        x.write(1, 0, 0, 1);
        Check.throwsState("commit at 69", () -> x.commit(1));
        due("flush", x.flush(0), 69);
    }

    private static void viewsOfGreatNumbers() {
        Check.about("numbers above 400");
        Stratalog x = new Stratalog();
        for (int round = 0; round < 11; round++) {
            runOf(x, 0, 0, 38);
            x.whole(0);
        }
        due("number", x.number(), 429);
        due("begin", x.begin(), 0);
        due("begin", x.begin(), 1);
        due("snapshot", x.snapshot(), 0);
        due("read", x.read(0, 0, 38), 1);
        due("read", x.read(1, 0, 37), 1);
        due("put", x.put(0, 38, 2), 430);
        due("get", x.get(0, 38, NONE), 2);
        due("get by the snapshot", x.get(0, 38, 0), 1);
        due("read", x.read(0, 0, 38), 1);
        due("commit", x.commit(0), CONFLICT);
        due("write", x.write(1, 0, 37, 3), 1);
        due("commit", x.commit(1), DONE);
        due("number", x.number(), 431);
        due("flush", x.flush(0), 2);
        due("pins", x.pins(0), 2);
        due("put", x.put(0, 7, 2), 432);
        due("crash", x.crash(0), 431);
        due("get", x.get(0, 37, NONE), 3);
    }
}
