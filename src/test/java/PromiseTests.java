/** For each promise of the document: ordinary inputs, edges, wrong inputs; the answers are worked out by hand. */
public final class PromiseTests extends TestBase {
    private PromiseTests() {
    }

    public static void main(String[] args) {
        newObject();
        put();
        mark();
        add();
        clear();
        number();
        get();
        looked();
        next();
        snapshot();
        release();
        pins();
        begin();
        read();
        write();
        commit();
        commitConflicts();
        flush();
        compactScores();
        compactTakesRunsInTurn();
        compactPicksAboveTheEnd();
        compactDeep();
        compactByStripes();
        compactLooksBelowAlone();
        compactKeepsWhatCountsBelow();
        compactTakesTheLevelBelow();
        whole();
        wholeFolds();
        wholeByStripes();
        wholeCuts();
        wholeClears();
        row();
        take();
        takeFlushes();
        level();
        run();
        table();
        pressure();
        sync();
        unsure();
        crash();
        crashGoesOn();
        cut();
        System.out.println("PromiseTests");
        Check.end();
    }

    // ---- promise 1

    private static void newObject() {
        Stratalog x = new Stratalog();
        due("new number()", x.number(), 0);
        due("new looked()", x.looked(), 0);
        due("new unsure()", x.unsure(), 0);
        for (int family = 0; family < 2; family++) {
            due("new table", x.table(family), 0);
            due("new pressure", x.pressure(family), 0);
            due("new next", x.next(family, 0, true, NONE), NONE);
            due("new next back", x.next(family, 63, false, NONE), NONE);
            due("new get", x.get(family, 0, NONE), NO_VALUE);
            due("new flush", x.flush(family), NONE);
            due("new compact", x.compact(family), NONE);
            due("new whole", x.whole(family), 0);
            for (int level = 0; level < 4; level++) {
                dueLevel(x, family, level, new int[] {0, 0, 0, 0});
            }
        }
        due("new sync", x.sync(), 0);
        due("new crash", x.crash(100), 0);
        due("new snapshot", x.snapshot(), 0);
        due("new begin", x.begin(), 0);
        due("NONE", Stratalog.NONE, -1);
        due("NO_VALUE", Stratalog.NO_VALUE, -1000000000);
        due("DONE", Stratalog.DONE, 0);
        due("CONFLICT", Stratalog.CONFLICT, 1);
    }

    // ---- promises 2 to 6

    private static void put() {
        Stratalog x = new Stratalog();
        due("put first", x.put(0, 0, -9999), 1);
        due("put in the other family", x.put(1, 63, 9999), 2);
        due("put again", x.put(0, 0, 9999), 3);
        due("get", x.get(0, 0, NONE), 9999);
        due("get of the other", x.get(1, 63, NONE), 9999);
        due("get of the other family's key", x.get(1, 0, NONE), NO_VALUE);
        x.add(0, 0, 1);
        x.put(0, 0, 0);
        due("a PUT covers ADDs below", x.get(0, 0, NONE), 0);
        for (int i = 0; i < 4; i++) {
            int at = i;
            Check.throwsArgument("put family", () -> x.put(NO_FAMILIES[at], 0, 0));
            Check.throwsArgument("put key", () -> x.put(0, NO_KEYS[at], 0));
            Check.throwsArgument("put value", () -> x.put(0, 0, NO_VALUES[at]));
        }
        due("number after throws", x.number(), 5);
        due("unsure after throws", x.unsure(), 5);
        Stratalog full = stalled();
        Check.throwsState("put under pressure", () -> full.put(0, 0, 0));
        Check.throwsArgument("put of both wrong", () -> full.put(0, 64, 0));
        due("number after pressure", full.number(), 40);
        due("table after pressure", full.table(0), 40);
        due("put in the free family", full.put(1, 0, 0), 41);
        full.flush(0);
        due("put after a flush", full.put(0, 0, 0), 42);
    }

    private static void mark() {
        Stratalog x = new Stratalog();
        x.put(0, 63, 5);
        due("mark", x.mark(0, 63), 2);
        due("get marked", x.get(0, 63, NONE), NO_VALUE);
        due("mark nothing", x.mark(1, 0), 3);
        x.add(0, 63, 7);
        due("an ADD above a MARK", x.get(0, 63, NONE), 7);
        for (int i = 0; i < 4; i++) {
            int at = i;
            Check.throwsArgument("mark family", () -> x.mark(NO_FAMILIES[at], 0));
            Check.throwsArgument("mark key", () -> x.mark(0, NO_KEYS[at]));
        }
        due("number after throws", x.number(), 4);
        Stratalog full = stalled();
        Check.throwsState("mark under pressure", () -> full.mark(0, 0));
        Check.throwsArgument("mark of both wrong", () -> full.mark(0, -1));
        due("mark in the free family", full.mark(1, 0), 41);
    }

    private static void add() {
        Stratalog x = new Stratalog();
        due("add", x.add(0, 0, -9999), 1);
        due("get of an ADD alone", x.get(0, 0, NONE), -9999);
        x.add(0, 0, 9999);
        due("sum 0 is a value", x.get(0, 0, NONE), 0);
        x.put(0, 1, 9999);
        x.add(0, 1, 9999);
        x.add(0, 1, 9999);
        due("sum above the values", x.get(0, 1, NONE), 29997);
        for (int i = 0; i < 4; i++) {
            int at = i;
            Check.throwsArgument("add family", () -> x.add(NO_FAMILIES[at], 0, 0));
            Check.throwsArgument("add key", () -> x.add(0, NO_KEYS[at], 0));
            Check.throwsArgument("add by", () -> x.add(0, 0, NO_VALUES[at]));
        }
        due("number after throws", x.number(), 5);
        Stratalog full = stalled();
        Check.throwsState("add under pressure", () -> full.add(0, 0, 0));
        Check.throwsArgument("add of both wrong", () -> full.add(0, 0, 10000));
        due("add in the free family", full.add(1, 0, 0), 41);
    }

    private static void clear() {
        Stratalog x = new Stratalog();
        for (int key = 3; key <= 7; key++) {
            x.put(0, key, key);
        }
        x.put(1, 5, 55);
        due("clear", x.clear(0, 4, 6), 7);
        due("below the range", x.get(0, 3, NONE), 3);
        due("its first key", x.get(0, 4, NONE), NO_VALUE);
        due("its last key", x.get(0, 6, NONE), NO_VALUE);
        due("above the range", x.get(0, 7, NONE), 7);
        due("the other family", x.get(1, 5, NONE), 55);
        x.add(0, 4, 2);
        due("an ADD above a CLEAR", x.get(0, 4, NONE), 2);
        due("clear of one key", x.clear(0, 63, 63), 9);
        due("clear of all", x.clear(0, 0, 63), 10);
        due("nothing left", x.next(0, 0, true, NONE), NONE);
        for (int i = 0; i < 4; i++) {
            int at = i;
            Check.throwsArgument("clear family", () -> x.clear(NO_FAMILIES[at], 0, 0));
            Check.throwsArgument("clear from", () -> x.clear(0, NO_KEYS[at], 63));
            Check.throwsArgument("clear to", () -> x.clear(0, 0, NO_KEYS[at]));
        }
        Check.throwsArgument("clear backward", () -> x.clear(0, 5, 4));
        due("number after throws", x.number(), 10);
        Stratalog full = stalled();
        Check.throwsState("clear under pressure", () -> full.clear(0, 0, 0));
        Check.throwsArgument("clear of both wrong", () -> full.clear(0, 1, 0));
        due("clear in the free family", full.clear(1, 0, 0), 41);
        due("unsure", full.unsure(), 41);
    }

    private static void number() {
        Stratalog x = new Stratalog();
        x.put(0, 1, 1);
        x.mark(1, 1);
        due("number counts both families", x.number(), 2);
        x.flush(0);
        x.get(0, 1, NONE);
        x.snapshot();
        due("number stays", x.number(), 2);
        x.row(1, 1);
        due("a drafted row is no write", x.number(), 2);
        x.row(2, 1);
        x.take(0);
        due("rows taken in are one write", x.number(), 3);
    }

    // ---- promises 7 to 12

    private static void get() {
        Stratalog x = new Stratalog();
        x.put(0, 5, 50);
        x.snapshot();
        x.add(0, 5, 3);
        x.snapshot();
        x.mark(0, 5);
        x.snapshot();
        x.add(0, 5, 4);
        x.add(0, 5, 4);
        x.snapshot();
        x.clear(0, 0, 10);
        x.snapshot();
        x.put(0, 5, 1);
        int[] want = {50, 53, NO_VALUE, 8, NO_VALUE};
        for (int round = 0; round < 3; round++) {
            for (int s = 0; s < want.length; s++) {
                due("get by snapshot " + s + " in round " + round, x.get(0, 5, s), want[s]);
            }
            due("get now", x.get(0, 5, NONE), 1);
            if (round == 0) {
                x.flush(0);
            } else {
                x.whole(0);
            }
        }
        for (int i = 0; i < 4; i++) {
            int at = i;
            Check.throwsArgument("get family", () -> x.get(NO_FAMILIES[at], 0, NONE));
            Check.throwsArgument("get key", () -> x.get(0, NO_KEYS[at], NONE));
        }
        Check.throwsIndex("get by no snapshot", () -> x.get(0, 0, 5));
        Check.throwsIndex("get by -2", () -> x.get(0, 0, -2));
        Check.throwsIndex("get by 30", () -> x.get(0, 0, 30));
        Check.throwsIndex("get by the greatest int", () -> x.get(0, 0, Integer.MAX_VALUE));
        Check.throwsArgument("get of both wrong", () -> x.get(0, 64, 5));
        x.release(2);
        Check.throwsIndex("get by a released one", () -> x.get(0, 5, 2));
        due("get by the next one", x.get(0, 5, 3), 8);
    }

    private static void looked() {
        Stratalog x = new Stratalog();
        x.put(0, 0, 1);
        x.get(0, 0, NONE);
        due("the table is no run", x.looked(), 0);
        x.put(0, 4, 1);
        x.flush(0);
        x.get(0, 0, NONE);
        due("looked into one", x.looked(), 1);
        oneRun(x, 0, 0);
        x.get(0, 0, NONE);
        due("looked into all that may have it", x.looked(), 2);
        x.get(0, 4, NONE);
        due("not into one whose span ends ahead of it", x.looked(), 1);
        x.get(0, 2, NONE);
        due("not into one without an entry for it", x.looked(), 0);
        x.put(0, 61, 1);
        x.flush(0);
        x.get(0, 0, NONE);
        due("0 and 61 are alike in the first filter alone", x.looked(), 2);
        x.clear(0, 0, 63);
        x.flush(0);
        x.get(0, 4, NONE);
        due("CLEARs are not in the filters", x.looked(), 1);
        x.snapshot();
        x.get(0, 61, 0);
        due("looked by a snapshot", x.looked(), 1);
        x.get(1, 61, NONE);
        due("the other family has no runs", x.looked(), 0);
        x.get(0, 0, NONE);
        Check.throwsArgument("get", () -> x.get(0, 64, NONE));
        Check.throwsIndex("get", () -> x.get(0, 63, 9));
        x.next(0, 63, true, NONE);
        x.begin();
        x.read(0, 0, 63);
        due("looked by the latest get() that answered", x.looked(), 2);
    }

    private static void next() {
        Stratalog x = new Stratalog();
        x.put(0, 0, 1);
        x.put(0, 10, 1);
        x.add(0, 20, 1);
        x.put(0, 63, 1);
        x.snapshot();
        x.flush(0);
        x.mark(0, 10);
        x.clear(0, 60, 63);
        x.put(0, 30, 1);
        due("forward from the key", x.next(0, 0, true, NONE), 0);
        due("forward over a MARK", x.next(0, 1, true, NONE), 20);
        due("forward to the table", x.next(0, 21, true, NONE), 30);
        due("forward to the end", x.next(0, 31, true, NONE), NONE);
        due("backward over a CLEAR", x.next(0, 63, false, NONE), 30);
        due("backward from the key", x.next(0, 20, false, NONE), 20);
        due("backward over a MARK", x.next(0, 19, false, NONE), 0);
        due("backward at 0", x.next(0, 0, false, NONE), 0);
        due("forward by a snapshot", x.next(0, 1, true, 0), 10);
        due("backward by a snapshot", x.next(0, 63, false, 0), 63);
        due("not what came later", x.next(0, 21, true, 0), 63);
        due("the other family", x.next(1, 0, true, NONE), NONE);
        for (int i = 0; i < 4; i++) {
            int at = i;
            Check.throwsArgument("next family", () -> x.next(NO_FAMILIES[at], 0, true, NONE));
            Check.throwsArgument("next key", () -> x.next(0, NO_KEYS[at], false, NONE));
        }
        Check.throwsIndex("next by no snapshot", () -> x.next(0, 0, true, 1));
        Check.throwsIndex("next by -2", () -> x.next(0, 0, true, -2));
        Check.throwsArgument("next of both wrong", () -> x.next(2, 0, true, 1));
        x.release(0);
        Check.throwsIndex("next by a released one", () -> x.next(0, 0, true, 0));
    }

    private static void snapshot() {
        Stratalog x = new Stratalog();
        for (int s = 0; s < 30; s++) {
            x.put(1, 1, s);
            due("snapshot", x.snapshot(), s);
            if (s % 3 == 0) {
                x.release(s);
            }
        }
        Check.throwsState("snapshot 31", x::snapshot);
        x.crash(0);
        Check.throwsState("30 ever, crashes or not", x::snapshot);
        Stratalog y = new Stratalog();
        y.put(0, 0, 1);
        y.snapshot();
        y.crash(100);
        due("numbers go on", y.snapshot(), 1);
        due("a snapshot is no write", y.number(), 1);
    }

    private static void release() {
        Stratalog x = new Stratalog();
        Check.throwsIndex("release of none", () -> x.release(0));
        Check.throwsIndex("release of NONE", () -> x.release(NONE));
        x.snapshot();
        x.snapshot();
        x.release(0);
        Check.throwsIndex("release again", () -> x.release(0));
        Check.throwsIndex("release of the next", () -> x.release(2));
        Check.throwsIndex("release of 30", () -> x.release(30));
        Check.throwsIndex("release of the least int", () -> x.release(Integer.MIN_VALUE));
        due("the other one is still there", x.get(0, 0, 1), NO_VALUE);
        x.crash(0);
        Check.throwsIndex("release after a crash", () -> x.release(1));
    }

    private static void pins() {
        Stratalog x = new Stratalog();
        x.put(0, 1, 1);
        x.put(0, 2, 1);
        x.put(1, 1, 1);
        x.snapshot();
        x.put(0, 1, 2);
        x.mark(0, 2);
        x.clear(1, 0, 5);
        due("nothing in runs yet", x.pins(0), 0);
        x.flush(0);
        due("of family 0", x.pins(0), 3);
        x.flush(1);
        due("of both families", x.pins(0), 4);
        x.snapshot();
        due("of a later one, with nothing written since", x.pins(1), 0);
        x.release(0);
        Check.throwsIndex("pins of a released one", () -> x.pins(0));
        Check.throwsIndex("pins of none", () -> x.pins(2));
        Check.throwsIndex("pins of NONE", () -> x.pins(NONE));
        due("asking changes nothing", x.level(0, 0, 1), 4);

        Stratalog y = new Stratalog();
        y.put(0, 1, 1);
        y.snapshot();
        y.snapshot();
        y.begin();
        y.put(0, 1, 2);
        y.flush(0);
        due("another one pins it too", y.pins(0), 0);
        y.release(1);
        due("the transaction pins it too", y.pins(0), 0);
        y.commit(0);
        due("alone", y.pins(0), 1);
    }

    // ---- promises 13 to 16

    private static void begin() {
        Stratalog x = new Stratalog();
        for (int t = 0; t < 30; t++) {
            due("begin", x.begin(), t);
            if (t % 2 == 0) {
                x.commit(t);
            }
        }
        Check.throwsState("begin 31", x::begin);
        x.crash(0);
        Check.throwsState("30 ever, crashes or not", x::begin);
        due("begin is no write", x.number(), 0);
    }

    private static void read() {
        Stratalog x = new Stratalog();
        x.put(0, 1, 10);
        x.add(1, 1, 20);
        x.begin();
        x.put(0, 1, 11);
        x.clear(1, 0, 63);
        due("read by its number", x.read(0, 0, 1), 10);
        due("read in the other family", x.read(0, 1, 1), 20);
        due("read nothing", x.read(0, 0, 0), NO_VALUE);
        x.write(0, 0, 1, 12);
        due("what waits first", x.read(0, 0, 1), 12);
        x.write(0, 0, 1, NO_VALUE);
        due("a MARK that waits", x.read(0, 0, 1), NO_VALUE);
        x.flush(0);
        x.whole(0);
        x.flush(1);
        x.whole(1);
        due("read after it was merged", x.read(0, 1, 1), 20);
        for (int i = 0; i < 4; i++) {
            int at = i;
            Check.throwsArgument("read family", () -> x.read(0, NO_FAMILIES[at], 0));
            Check.throwsArgument("read key", () -> x.read(0, 0, NO_KEYS[at]));
        }
        Check.throwsIndex("read by none", () -> x.read(1, 0, 0));
        Check.throwsIndex("read by -1", () -> x.read(-1, 0, 0));
        Check.throwsIndex("read of both wrong", () -> x.read(1, 2, 0));
        x.commit(0);
        Check.throwsIndex("read by one that is over", () -> x.read(0, 0, 0));
        x.begin();
        x.crash(0);
        Check.throwsIndex("read by one that ended by a crash", () -> x.read(1, 0, 0));
    }

    private static void write() {
        Stratalog x = new Stratalog();
        x.begin();
        due("write", x.write(0, 0, 0, 9999), 1);
        due("write in place of it", x.write(0, 0, 0, -9999), 1);
        due("write in the other family", x.write(0, 1, 0, 1), 2);
        due("write a MARK", x.write(0, 1, 63, NO_VALUE), 3);
        due("write a MARK in place", x.write(0, 0, 0, NO_VALUE), 3);
        due("write a PUT in place of a MARK", x.write(0, 1, 63, 5), 3);
        due("nothing is written yet", x.number(), 0);
        due("another sees nothing", x.get(1, 63, NONE), NO_VALUE);
        for (int i = 0; i < 4; i++) {
            int at = i;
            Check.throwsArgument("write family", () -> x.write(0, NO_FAMILIES[at], 0, 0));
            Check.throwsArgument("write key", () -> x.write(0, 0, NO_KEYS[at], 0));
            Check.throwsArgument("write value", () -> x.write(0, 0, 0, NO_VALUES[at]));
        }
        Check.throwsArgument("write near NO_VALUE", () -> x.write(0, 0, 0, NO_VALUE + 1));
        Check.throwsIndex("write by none", () -> x.write(1, 0, 0, 0));
        Check.throwsIndex("write of both wrong", () -> x.write(-1, 0, 0, 10000));
        x.commit(0);
        Check.throwsIndex("write by one that is over", () -> x.write(0, 0, 0, 0));
        Stratalog full = stalled();
        full.begin();
        due("write under pressure", full.write(0, 0, 0, 0), 1);
    }

    private static void commit() {
        Stratalog x = new Stratalog();
        x.put(0, 7, 1);
        x.begin();
        x.write(0, 1, 3, 13);
        x.write(0, 0, 7, NO_VALUE);
        x.write(0, 0, 2, 2);
        due("commit", x.commit(0), Stratalog.DONE);
        due("a number for each write", x.number(), 4);
        due("one record", x.unsure(), 2);
        due("get", x.get(0, 2, NONE), 2);
        due("get of a MARK", x.get(0, 7, NONE), NO_VALUE);
        due("get of the other family", x.get(1, 3, NONE), 13);
        x.flush(0);
        x.flush(1);
        due("by rising families", x.run(1, 0, 0, 3), 4);
        Check.throwsIndex("commit again", () -> x.commit(0));
        Check.throwsIndex("commit of none", () -> x.commit(1));
        Check.throwsIndex("commit of -1", () -> x.commit(-1));
        x.begin();
        due("commit of nothing", x.commit(1), Stratalog.DONE);
        due("no record without writes", x.unsure(), 0);
        commitInOrder();
        commitUnderPressure();
    }

    private static void commitInOrder() {
        Stratalog x = new Stratalog();
        x.begin();
        x.write(0, 0, 9, 9);
        x.write(0, 0, 4, 4);
        x.commit(0);
        takeOf(x, 1, 0, 0, 0);
        x.crash(0);
        due("sure after taking in", x.number(), 3);
        x.begin();
        x.write(1, 0, 20, 1);
        x.write(1, 0, 10, 1);
        x.commit(1);
        x.put(0, 30, 1);
        due("a crash leaves one record, whole", x.crash(1), 5);
        due("its first key", x.get(0, 10, NONE), 1);
        due("its last key", x.get(0, 20, NONE), 1);
        due("not the next record", x.get(0, 30, NONE), NO_VALUE);
        x.flush(0);
        due("numbers rise by keys", x.run(0, 0, 0, 3), 5);
        x.compact(0);
        x.whole(0);
        due("the last key has the greatest number", x.run(0, 3, 0, 3), 5);
    }

    private static void commitUnderPressure() {
        Stratalog x = stalled();
        x.begin();
        x.read(0, 0, 0);
        x.write(0, 1, 0, 5);
        x.begin();
        x.read(1, 1, 0);
        x.write(1, 0, 0, 5);
        x.begin();
        x.read(2, 0, 0);
        due("commit beside the pressure", x.commit(0), Stratalog.DONE);
        Check.throwsState("commit under pressure, conflict or not", () -> x.commit(1));
        due("number", x.number(), 41);
        due("what waits still waits", x.read(1, 0, 0), 5);
        due("commit of a reader", x.commit(2), Stratalog.DONE);
        x.flush(0);
        due("the conflict then", x.commit(1), Stratalog.CONFLICT);
        Check.throwsIndex("over, with a conflict too", () -> x.commit(1));
        Stratalog y = stalled();
        y.begin();
        y.write(0, 0, 63, 5);
        Check.throwsState("commit under pressure", () -> y.commit(0));
        y.flush(0);
        due("commit after a flush", y.commit(0), Stratalog.DONE);
        due("get", y.get(0, 63, NONE), 5);
    }

    private interface Change {
        void make(Stratalog x);
    }

    private static void dueCommit(String what, int want, Change change) {
        Stratalog x = new Stratalog();
        x.put(0, 5, 1);
        x.begin();
        x.read(0, 0, 5);
        x.write(0, 0, 6, 6);
        int before = x.number();
        change.make(x);
        int changed = x.number();
        due("commit after " + what, x.commit(0), want);
        due("number after " + what, x.number(), want == Stratalog.DONE ? changed + 1 : changed);
        due("it was at", before, 1);
    }

    private static void commitConflicts() {
        int conflict = Stratalog.CONFLICT;
        int done = Stratalog.DONE;
        dueCommit("nothing", done, x -> { });
        dueCommit("a PUT", conflict, x -> x.put(0, 5, 1));
        dueCommit("a MARK", conflict, x -> x.mark(0, 5));
        dueCommit("an ADD", conflict, x -> x.add(0, 5, 0));
        dueCommit("a CLEAR that begins there", conflict, x -> x.clear(0, 5, 9));
        dueCommit("a CLEAR that ends there", conflict, x -> x.clear(0, 0, 5));
        dueCommit("a CLEAR below", done, x -> x.clear(0, 0, 4));
        dueCommit("a CLEAR above", done, x -> x.clear(0, 6, 63));
        dueCommit("a PUT at another key", done, x -> x.put(0, 6, 1));
        dueCommit("a PUT in another family", done, x -> x.put(1, 5, 1));
        dueCommit("a row", conflict, x -> takeOf(x, 0, 5, 5, 1));
        dueCommit("rows around it", done, x -> { x.row(4, 1); x.row(6, 1); x.take(0); });
        dueCommit("a PUT that was merged away", conflict, x -> {
            x.put(0, 5, 1);
            x.clear(0, 0, 63);
            x.flush(0);
            x.whole(0);
        });
        dueCommit("another one's commit", conflict, x -> { x.begin(); x.write(1, 0, 5, 1); x.commit(1); });
        dueCommit("another one's conflict", conflict, x -> {
            x.begin();
            x.read(1, 0, 5);
            x.write(1, 0, 6, 1);
            x.put(0, 5, 2);
            x.commit(1);
        });
        dueCommit("a write of its own after reading", conflict, x -> { x.write(0, 0, 5, 1); x.put(0, 5, 1); });
        dueCommit("flush and merge of what was there", done, x -> { x.flush(0); x.whole(0); });

        Stratalog first = new Stratalog();
        first.begin();
        first.read(0, 0, 0);
        first.put(0, 0, 1);
        due("the key 0", first.commit(0), conflict);
        first.begin();
        first.read(1, 1, 63);
        first.clear(1, 0, 63);
        due("the last key", first.commit(1), conflict);
        Stratalog y = new Stratalog();
        y.begin();
        y.write(0, 0, 5, 1);
        y.read(0, 0, 5);
        y.put(0, 5, 2);
        due("it found a writing of its own", y.commit(0), done);
        y.put(0, 8, 1);
        y.crash(0);
        y.begin();
        y.read(1, 0, 8);
        due("what a crash lost was not written", y.commit(1), done);
    }

    // ---- promises 17 to 19

    private static void flush() {
        Stratalog x = new Stratalog();
        x.put(1, 1, 1);
        due("flush of an empty table", x.flush(0), NONE);
        due("it syncs all the same", x.unsure(), 0);
        x.put(0, 20, 1);
        x.add(0, 20, 1);
        x.mark(0, 10);
        x.clear(0, 5, 12);
        x.clear(0, 15, 25);
        due("flush counts entries alone", x.flush(0), 3);
        dueRun(x, 0, 0, 0, new int[] {5, 25, 3, 6});
        dueLevel(x, 0, 0, new int[] {1, 3, 2, 25});
        due("the table is empty", x.table(0), 0);
        due("the other table is not", x.table(1), 1);
        x.clear(0, 30, 40);
        due("flush of CLEARs alone", x.flush(0), 0);
        dueRun(x, 0, 0, 0, new int[] {30, 40, 0, 7});
        dueRun(x, 0, 0, 1, new int[] {5, 25, 3, 6});
        x.put(0, 50, 1);
        x.sync();
        x.put(0, 51, 1);
        due("flush", x.flush(0), 2);
        due("unsure", x.unsure(), 0);
        due("runs are kept through a crash", x.crash(0), 9);
        due("get", x.get(0, 51, NONE), 1);
        for (int family : NO_FAMILIES) {
            Check.throwsArgument("flush", () -> x.flush(family));
        }
    }

    private static void compactScores() {
        Stratalog x = new Stratalog();
        for (int i = 0; i < 3; i++) {
            runOf(x, 0, 4 * i, 4 * i + 2);
        }
        due("three runs score 75", x.level(0, 0, 3), 75);
        due("compact of 75", x.compact(0), NONE);
        runOf(x, 0, 12, 14);
        due("four runs score 100", x.level(0, 0, 3), 100);
        due("compact of the other family", x.compact(1), NONE);
        due("compact", x.compact(0), 0);
        dueLevel(x, 0, 0, new int[] {0, 0, 0, 0});
        dueLevel(x, 0, 1, new int[] {2, 12, 0, 100});
        dueRun(x, 0, 1, 0, new int[] {0, 9, 8, 8});
        dueRun(x, 0, 1, 1, new int[] {10, 14, 4, 12});
        for (int i = 0; i < 4; i++) {
            oneRun(x, 0, 20 + i);
        }
        due("the lesser level of two with 100", x.compact(0), 0);
        due("entries of the level 1", x.level(0, 1, 1), 16);
        due("rounded down", x.level(0, 1, 3), 133);
        for (int i = 0; i < 5; i++) {
            oneRun(x, 0, 30 + i);
        }
        due("133 is more than 125", x.compact(0), 1);
        due("then 125 is more than 66", x.compact(0), 0);
        for (int family : NO_FAMILIES) {
            Check.throwsArgument("compact", () -> x.compact(family));
        }
    }

    private static void fourRuns(Stratalog x) {
        for (int i = 0; i < 4; i++) {
            runOf(x, 0, 6 * i, 6 * i + 5);
        }
    }

    private static void compactTakesRunsInTurn() {
        Stratalog x = new Stratalog();
        fourRuns(x);
        due("compact of the level 0", x.compact(0), 0);
        dueLevel(x, 0, 1, new int[] {3, 24, 0, 200});
        due("compact of the first run", x.compact(0), 1);
        dueRun(x, 0, 2, 0, new int[] {0, 7, 8, 8});
        dueRun(x, 0, 1, 0, new int[] {8, 15, 8, 16});
        due("compact of the second run", x.compact(0), 1);
        dueRun(x, 0, 2, 1, new int[] {8, 15, 8, 16});
        due("66 is too little", x.compact(0), NONE);
        fourRuns(x);
        due("compact of the level 0 again", x.compact(0), 0);
        dueLevel(x, 0, 1, new int[] {3, 24, 0, 200});
        x.crash(0);
        x.cut(0, false);
        due("compact of the third run, after crashes", x.compact(0), 1);
        dueRun(x, 0, 2, 2, new int[] {16, 23, 8, 48});
        due("compact of the first run again", x.compact(0), 1);
        dueRun(x, 0, 2, 0, new int[] {0, 7, 8, 32});
        dueRun(x, 0, 1, 0, new int[] {8, 15, 8, 40});
        x.whole(0);
        fourRuns(x);
        x.compact(0);
        due("whole() takes no turn", x.compact(0), 1);
        dueRun(x, 0, 1, 0, new int[] {0, 7, 8, 56});
        dueRun(x, 0, 2, 0, new int[] {8, 15, 8, 64});
    }

    private static void compactPicksAboveTheEnd() {
        Stratalog x = new Stratalog();
        fourRuns(x);
        x.compact(0);
        x.compact(0);
        due("the run that ended at 15", x.compact(0), 1);
        oneRun(x, 0, 15);
        oneRun(x, 0, 15);
        runOf(x, 0, 15, 22);
        runOf(x, 0, 30, 33);
        due("compact of the level 0", x.compact(0), 0);
        dueRun(x, 0, 1, 0, new int[] {15, 22, 8, 34});
        dueRun(x, 0, 1, 1, new int[] {23, 33, 5, 38});
        due("compact of the level 1", x.compact(0), 1);
        dueLevel(x, 0, 1, new int[] {1, 8, 0, 66});
        dueRun(x, 0, 1, 0, new int[] {15, 22, 8, 34});
    }

    private static void compactByStripes() {
        Stratalog x = new Stratalog();
        x.put(0, 0, 1);
        x.snapshot();
        x.flush(0);
        for (int i = 0; i < 3; i++) {
            x.put(0, 0, 2 + i);
            x.flush(0);
        }
        due("compact of runs of the key 0", x.compact(0), 0);
        dueLevel(x, 0, 1, new int[] {1, 2, 0, 16});
        dueRun(x, 0, 1, 0, new int[] {0, 0, 2, 4});
        due("by the snapshot", x.get(0, 0, 0), 1);
        due("now", x.get(0, 0, NONE), 4);
        x.release(0);
        due("whole", x.whole(0), 1);
    }

    private static void compactLooksBelowAlone() {
        Stratalog x = new Stratalog();
        takeOf(x, 0, 0, 7, 1);
        due("into the level 2", takeOf(x, 0, 0, 7, 2), 2);
        for (int key = 0; key < 8; key++) {
            x.mark(0, key);
        }
        x.flush(0);
        runOf(x, 0, 8, 11);
        oneRun(x, 0, 11);
        oneRun(x, 0, 11);
        due("compact of the level 0", x.compact(0), 0);
        dueLevel(x, 0, 1, new int[] {2, 12, 0, 100});
        x.clear(0, 0, 63);
        x.flush(0);
        due("compact of MARKs upon PUTs", x.compact(0), 1);
        dueLevel(x, 0, 2, new int[] {1, 8, 0, 16});
        x.whole(0);
        dueLevel(x, 0, 3, new int[] {0, 0, 0, 0});

        due("taken in anew", takeOf(x, 0, 0, 0, 1), 3);
        due("above it", takeOf(x, 0, 0, 0, 2), 2);
        for (int key = 1; key <= 12; key++) {
            x.mark(0, key);
        }
        x.put(0, 13, 1);
        x.clear(0, 0, 0);
        x.flush(0);
        for (int i = 0; i < 3; i++) {
            oneRun(x, 0, 20);
        }
        due("compact of MARKs upon nothing", x.compact(0), 0);
        dueLevel(x, 0, 1, new int[] {1, 2, 1, 16});
        due("spans are wide", x.run(0, 1, 0, 1), 20);
        compactDropsWhatCountsForNothing();
    }

    private static void compactDropsWhatCountsForNothing() {
        Stratalog x = new Stratalog();
        due("into the level 3", takeOf(x, 0, 0, 20, 1), 3);
        for (int i = 0; i < 3; i++) {
            runOf(x, 0, 4 * i, 4 * i + 3);
        }
        x.mark(0, 12);
        x.flush(0);
        due("compact of the level 0", x.compact(0), 0);
        dueLevel(x, 0, 1, new int[] {2, 13, 0, 108});
        due("whole", x.whole(0), 14);
        dueRun(x, 0, 3, 0, new int[] {0, 7, 8, 9});

        Stratalog y = new Stratalog();
        due("into the level 3", takeOf(y, 0, 0, 0, 1), 3);
        due("into the level 2", takeOf(y, 0, 0, 1, 1), 2);
        due("into the level 1", takeOf(y, 0, 1, 12, 1), 1);
        y.mark(0, 5);
        y.flush(0);
        for (int i = 0; i < 3; i++) {
            oneRun(y, 0, 2);
        }
        due("the lesser level", y.compact(0), 0);
        dueLevel(y, 0, 1, new int[] {2, 11, 0, 91});
        y.put(0, 13, 1);
        y.flush(0);
        y.clear(0, 2, 3);
        y.mark(0, 4);
        y.flush(0);
        y.mark(0, 0);
        y.clear(0, 13, 13);
        y.flush(0);
        oneRun(y, 0, 14);
        due("once more", y.compact(0), 0);
        dueLevel(y, 0, 1, new int[] {2, 10, 0, 83});
        dueRun(y, 0, 1, 0, new int[] {0, 11, 8, 11});
    }

    private static void compactDeep() {
        Stratalog x = new Stratalog();
        due("taken into the level 3", takeOf(x, 0, 0, 47, 1), 3);
        due("taken into the level 2", takeOf(x, 0, 0, 46, 2), 2);
        due("47 entries score 97", x.level(0, 2, 3), 97);
        due("compact of 97", x.compact(0), NONE);
        due("taken behind it", takeOf(x, 0, 47, 47, 2), 2);
        due("48 entries score 100", x.level(0, 2, 3), 100);
        due("compact of the level 2", x.compact(0), 2);
        dueLevel(x, 0, 2, new int[] {1, 1, 0, 2});
        dueLevel(x, 0, 3, new int[] {6, 48, 0, 0});
        due("get of what was merged", x.get(0, 46, NONE), 2);
        due("taken in again", takeOf(x, 0, 48, 63, 1), 3);
        due("a level 3 has no score", x.level(0, 3, 3), 0);
        due("compact of what is full no more", x.compact(0), NONE);
    }

    private static void compactKeepsWhatCountsBelow() {
        Stratalog x = new Stratalog();
        takeOf(x, 0, 10, 20, 100);
        x.mark(0, 10);
        x.mark(0, 30);
        x.flush(0);
        x.add(0, 11, 1);
        x.flush(0);
        x.clear(0, 18, 25);
        x.flush(0);
        x.clear(0, 40, 50);
        x.flush(0);
        due("compact", x.compact(0), 0);
        dueLevel(x, 0, 1, new int[] {1, 2, 1, 16});
        dueRun(x, 0, 1, 0, new int[] {10, 50, 2, 5});
        due("a MARK still covers", x.get(0, 10, NONE), NO_VALUE);
        due("an ADD still adds", x.get(0, 11, NONE), 101);
        due("a CLEAR still clears", x.get(0, 20, NONE), NO_VALUE);
        due("the rest stays", x.get(0, 17, NONE), 100);
        x.crash(0);
        due("the number goes on, whatever was merged", x.number(), 6);
        due("whole", x.whole(0), 6);
        dueLevel(x, 0, 3, new int[] {1, 7, 0, 0});
        dueRun(x, 0, 3, 0, new int[] {10, 50, 7, 4});
    }

    private static void compactTakesTheLevelBelow() {
        Stratalog x = new Stratalog();
        takeOf(x, 0, 0, 63, 1);
        takeOf(x, 0, 0, 63, 2);
        due("into the level 1", takeOf(x, 0, 0, 3, 3), 1);
        due("beside it", takeOf(x, 0, 60, 63, 3), 1);
        due("between", takeOf(x, 0, 30, 31, 3), 1);
        due("into the level 0", takeOf(x, 0, 3, 30, 4), 0);
        for (int i = 0; i < 3; i++) {
            oneRun(x, 0, 10);
        }
        x.sync();
        dueRun(x, 0, 1, 1, new int[] {30, 31, 2, 5});
        due("the level 2 scores 133", x.compact(0), 2);
        due("compact of the level 0", x.compact(0), 0);
        dueLevel(x, 0, 1, new int[] {5, 36, 0, 300});
        dueRun(x, 0, 1, 0, new int[] {0, 7, 8, 6});
        dueRun(x, 0, 1, 1, new int[] {8, 15, 8, 9});
        dueRun(x, 0, 1, 3, new int[] {24, 31, 8, 6});
        dueRun(x, 0, 1, 4, new int[] {60, 63, 4, 4});
        due("get of the taken in", x.get(0, 30, NONE), 4);
        due("get beside it", x.get(0, 31, NONE), 3);
    }

    private static void whole() {
        Stratalog x = new Stratalog();
        x.put(0, 1, 1);
        due("whole without runs", x.whole(0), 0);
        due("the table is not flushed", x.table(0), 1);
        due("nor is the log synced", x.unsure(), 1);
        x.put(0, 1, 2);
        x.put(0, 2, 2);
        x.flush(0);
        x.put(0, 1, 3);
        x.put(0, 9, 9);
        x.flush(0);
        x.put(0, 1, 4);
        due("whole", x.whole(0), 2);
        dueLevel(x, 0, 0, new int[] {0, 0, 0, 0});
        dueLevel(x, 0, 3, new int[] {1, 3, 0, 0});
        dueRun(x, 0, 3, 0, new int[] {1, 9, 3, 5});
        due("get of the table", x.get(0, 1, NONE), 4);
        due("whole again", x.whole(0), 0);
        for (int family : NO_FAMILIES) {
            Check.throwsArgument("whole", () -> x.whole(family));
        }
        x.mark(0, 1);
        x.mark(0, 2);
        x.mark(0, 9);
        x.flush(0);
        due("whole of MARKs", x.whole(0), 7);
        dueLevel(x, 0, 3, new int[] {0, 0, 0, 0});
    }

    private static void wholeFolds() {
        Stratalog x = new Stratalog();
        x.put(0, 1, 10);
        x.add(0, 1, 5);
        x.add(0, 2, 5);
        x.add(0, 2, 6);
        x.put(0, 3, 10);
        x.mark(0, 3);
        x.add(0, 3, 4);
        x.put(0, 4, 10);
        x.mark(0, 4);
        x.put(0, 5, 10);
        x.clear(0, 5, 6);
        x.add(0, 5, 1);
        x.flush(0);
        due("whole", x.whole(0), 7);
        int[] want = {NO_VALUE, 15, 11, 4, NO_VALUE, 1, NO_VALUE};
        for (int key = 0; key < want.length; key++) {
            due("get(0, " + key + ")", x.get(0, key, NONE), want[key]);
        }
        dueLevel(x, 0, 3, new int[] {1, 4, 0, 0});
        dueRun(x, 0, 3, 0, new int[] {1, 6, 4, 12});
        x.add(0, 1, 1);
        x.flush(0);
        due("folded once more", x.whole(0), 1);
        due("get(0, 1)", x.get(0, 1, NONE), 16);
    }

    private static void wholeByStripes() {
        Stratalog x = new Stratalog();
        x.put(0, 1, 1);
        x.add(0, 1, 1);
        x.snapshot();
        x.add(0, 1, 1);
        x.add(0, 1, 1);
        x.begin();
        x.mark(0, 1);
        x.snapshot();
        x.add(0, 1, 7);
        x.put(1, 1, 1);
        x.flush(0);
        due("four stripes of six", x.whole(0), 2);
        due("by the first snapshot", x.get(0, 1, 0), 2);
        due("by the transaction", x.read(0, 0, 1), 4);
        due("by the second snapshot", x.get(0, 1, 1), NO_VALUE);
        due("now", x.get(0, 1, NONE), 7);
        x.commit(0);
        due("without the transaction", x.whole(0), 1);
        due("by the first snapshot", x.get(0, 1, 0), 2);
        x.release(0);
        due("without the first: the MARK is the least, too", x.whole(0), 2);
        due("by the second snapshot", x.get(0, 1, 1), NO_VALUE);
        due("now", x.get(0, 1, NONE), 7);
        x.release(1);
        due("without any", x.whole(0), 0);
        due("now", x.get(0, 1, NONE), 7);
        x.snapshot();
        x.put(0, 1, 8);
        x.flush(0);
        x.crash(0);
        due("a crash ends what pins", x.whole(0), 1);
    }

    private static void wholeCuts() {
        Stratalog x = new Stratalog();
        for (int i = 0; i < 9; i++) {
            x.put(0, 5, i);
            x.snapshot();
        }
        for (int i = 0; i < 4; i++) {
            x.put(0, 3, i);
            x.snapshot();
        }
        for (int i = 0; i < 5; i++) {
            x.put(0, 10, i);
            x.snapshot();
        }
        x.put(0, 12, 1);
        x.put(0, 14, 1);
        x.put(0, 16, 1);
        x.put(0, 18, 1);
        x.clear(0, 1, 2);
        x.clear(0, 50, 60);
        x.flush(0);
        due("whole", x.whole(0), 0);
        dueLevel(x, 0, 3, new int[] {4, 22, 0, 0});
        dueRun(x, 0, 3, 0, new int[] {1, 4, 4, 13});
        dueRun(x, 0, 3, 1, new int[] {5, 9, 9, 9});
        dueRun(x, 0, 3, 2, new int[] {10, 17, 8, 21});
        dueRun(x, 0, 3, 3, new int[] {18, 60, 1, 22});
    }

    private static void wholeClears() {
        Stratalog z = new Stratalog();
        z.put(0, 0, 1);
        z.snapshot();
        z.clear(0, 0, 0);
        z.flush(0);
        dueRun(z, 0, 0, 0, new int[] {0, 0, 1, 2});
        due("whole of the key 0", z.whole(0), 0);
        dueLevel(z, 0, 3, new int[] {1, 1, 1, 0});
        z.release(0);
        due("whole of the key 0 without the snapshot", z.whole(0), 1);
        z.put(0, 0, 1);
        z.clear(0, 0, 0);
        z.snapshot();
        z.put(0, 0, 2);
        z.flush(0);
        due("a snapshot right at the CLEAR", z.whole(0), 1);
        dueLevel(z, 0, 3, new int[] {1, 1, 0, 0});
        Stratalog x = new Stratalog();
        for (int key = 10; key < 30; key++) {
            x.put(0, key, key);
        }
        x.snapshot();
        x.clear(0, 0, 40);
        x.clear(0, 15, 20);
        x.clear(0, 40, 45);
        x.put(0, 12, 1);
        x.flush(0);
        due("whole", x.whole(0), 0);
        dueLevel(x, 0, 3, new int[] {3, 21, 5, 0});
        dueRun(x, 0, 3, 0, new int[] {0, 16, 8, 24});
        dueRun(x, 0, 3, 1, new int[] {17, 24, 8, 22});
        dueRun(x, 0, 3, 2, new int[] {25, 45, 5, 21});
        due("by the snapshot", x.get(0, 29, 0), 29);
        due("now", x.get(0, 29, NONE), NO_VALUE);
        due("above the CLEAR", x.get(0, 12, NONE), 1);
        due("the parts stay", x.whole(0), 0);
        dueLevel(x, 0, 3, new int[] {3, 21, 5, 0});
        x.release(0);
        due("whole without the snapshot", x.whole(0), 20);
        dueLevel(x, 0, 3, new int[] {1, 1, 0, 0});
        dueRun(x, 0, 3, 0, new int[] {0, 45, 1, 24});

        Stratalog y = new Stratalog();
        takeOf(y, 0, 0, 63, 1);
        for (int i = 0; i < 4; i++) {
            y.clear(0, 20, 22);
            y.flush(0);
        }
        due("compact of CLEARs alone", y.compact(0), 0);
        dueLevel(y, 0, 1, new int[] {1, 0, 4, 0});
        dueRun(y, 0, 1, 0, new int[] {20, 22, 0, 5});
    }

    // ---- promises 20 and 21

    private static void row() {
        Stratalog x = new Stratalog();
        due("row", x.row(0, -9999), 1);
        due("row above", x.row(1, 9999), 2);
        due("row at the end", x.row(63, 0), 3);
        Check.throwsArgument("row at the same key", () -> x.row(63, 0));
        Check.throwsArgument("row below", () -> x.row(62, 0));
        for (int i = 0; i < 4; i++) {
            int at = i;
            Check.throwsArgument("row key", () -> new Stratalog().row(NO_KEYS[at], 0));
            Check.throwsArgument("row value", () -> new Stratalog().row(5, NO_VALUES[at]));
        }
        x.crash(0);
        x.cut(0, true);
        due("rows that are drafted stay", x.take(1), 3);
        due("all of them", x.run(1, 3, 0, 2), 3);
        due("the draft is empty then", x.row(0, 1), 1);
    }

    private static void take() {
        Stratalog x = new Stratalog();
        Check.throwsState("take of nothing", () -> x.take(0));
        Check.throwsArgument("take of both wrong", () -> x.take(2));
        x.put(1, 1, 1);
        x.row(10, 7);
        x.row(20, 8);
        for (int family : NO_FAMILIES) {
            Check.throwsArgument("take", () -> x.take(family));
        }
        due("take", x.take(0), 3);
        due("one number for all", x.number(), 2);
        dueRun(x, 0, 3, 0, new int[] {10, 20, 2, 2});
        due("the log is synced", x.unsure(), 0);
        due("it is sure", x.crash(0), 2);
        due("get", x.get(0, 20, NONE), 8);
        Check.throwsState("take again", () -> x.take(0));
        due("beside it", takeOf(x, 0, 21, 22, 1), 3);
        due("ahead of it", takeOf(x, 0, 0, 9, 1), 3);
        dueRun(x, 0, 3, 0, new int[] {0, 9, 10, 4});
        dueRun(x, 0, 3, 2, new int[] {21, 22, 2, 3});
        due("within its span", takeOf(x, 0, 15, 15, 1), 2);
        due("above that", takeOf(x, 0, 12, 16, 2), 1);
        due("above that", takeOf(x, 0, 16, 16, 3), 0);
        due("no room but in the level 0", takeOf(x, 0, 16, 17, 4), 0);
        dueRun(x, 0, 0, 0, new int[] {16, 17, 2, 8});
        due("the latest first", x.get(0, 16, NONE), 4);
        due("below a run of the level 0", takeOf(x, 0, 30, 30, 5), 3);
        due("the other family is empty", takeOf(x, 1, 1, 2, 6), 0);
        due("get of it", x.get(1, 1, NONE), 6);
        x.snapshot();
        takeOf(x, 1, 2, 2, 7);
        due("by a snapshot", x.get(1, 2, 0), 6);
    }

    private static void takeFlushes() {
        Stratalog x = new Stratalog();
        x.put(0, 9, 1);
        x.put(0, 21, 1);
        x.clear(0, 0, 9);
        x.row(10, 1);
        x.row(20, 1);
        due("nothing in the table has a key of the span", x.take(0), 3);
        due("it is not flushed", x.table(0), 3);
        x.put(0, 15, 1);
        x.row(10, 2);
        x.row(20, 2);
        due("a key within the span is enough", x.take(0), 0);
        due("it is flushed", x.table(0), 0);
        due("runs", x.level(0, 0, 0), 2);
        dueRun(x, 0, 0, 0, new int[] {10, 20, 2, 6});
        dueRun(x, 0, 0, 1, new int[] {0, 21, 3, 5});
        Stratalog y = new Stratalog();
        y.clear(0, 0, 10);
        due("a CLEAR with a key of it", takeOf(y, 0, 10, 20, 3), 0);
        due("it is flushed", y.table(0), 0);
        due("get of the cleared", y.get(0, 10, NONE), 3);
        Stratalog z = stalled();
        due("taken in under pressure", takeOf(z, 0, 63, 63, 1), 3);
        due("the table stays", z.table(0), 40);
        due("all is sure", z.unsure(), 0);
        due("number", z.crash(0), 41);
    }

    // ---- promises 22 to 25

    private static void level() {
        Stratalog x = new Stratalog();
        runOf(x, 1, 0, 12);
        x.clear(1, 3, 4);
        x.flush(1);
        dueLevel(x, 1, 0, new int[] {2, 13, 1, 50});
        dueLevel(x, 0, 0, new int[] {0, 0, 0, 0});
        for (int i = 0; i < 4; i++) {
            int at = i;
            Check.throwsArgument("level family", () -> x.level(NO_FAMILIES[at], 0, 0));
        }
        for (int wrong : new int[] {-1, 4, Integer.MIN_VALUE, Integer.MAX_VALUE}) {
            Check.throwsArgument("level level", () -> x.level(0, wrong, 0));
            Check.throwsArgument("level what", () -> x.level(0, 0, wrong));
        }
        oneRun(x, 1, 50);
        oneRun(x, 1, 50);
        x.compact(1);
        dueLevel(x, 1, 1, new int[] {2, 12, 0, 100});
        takeOf(x, 1, 0, 63, 1);
        due("score of the level 0", x.level(1, 0, 3), 25);
    }

    private static void run() {
        Stratalog x = new Stratalog();
        x.put(0, 4, 1);
        x.put(0, 60, 1);
        x.clear(0, 2, 5);
        x.flush(0);
        dueRun(x, 0, 0, 0, new int[] {2, 60, 2, 3});
        x.put(0, 1, 1);
        x.flush(0);
        dueRun(x, 0, 0, 0, new int[] {1, 1, 1, 4});
        dueRun(x, 0, 0, 1, new int[] {2, 60, 2, 3});
        for (int family : NO_FAMILIES) {
            Check.throwsArgument("run family", () -> x.run(family, 0, 0, 0));
        }
        for (int wrong : new int[] {-1, 4, Integer.MIN_VALUE, Integer.MAX_VALUE}) {
            Check.throwsArgument("run level", () -> x.run(0, wrong, 0, 0));
            Check.throwsArgument("run what", () -> x.run(0, 0, 0, wrong));
            Check.throwsArgument("run of both wrong", () -> x.run(0, 0, 9, wrong));
        }
        for (int place : new int[] {-1, 2, Integer.MIN_VALUE, Integer.MAX_VALUE}) {
            Check.throwsIndex("run place", () -> x.run(0, 0, place, 0));
        }
        Check.throwsIndex("run in an empty level", () -> x.run(0, 1, 0, 0));
        Check.throwsIndex("run in the other family", () -> x.run(1, 0, 0, 0));
    }

    private static void table() {
        Stratalog x = new Stratalog();
        x.put(0, 1, 1);
        x.put(0, 1, 1);
        x.mark(0, 1);
        x.add(0, 1, 1);
        x.clear(0, 1, 9);
        due("each counts", x.table(0), 5);
        due("the other family", x.table(1), 0);
        x.begin();
        x.write(0, 0, 1, 1);
        x.write(0, 1, 1, 1);
        due("what waits does not", x.table(0), 5);
        x.commit(0);
        due("what is committed does", x.table(0), 6);
        due("the other family", x.table(1), 1);
        x.flush(0);
        due("flushed", x.table(0), 0);
        for (int family : NO_FAMILIES) {
            Check.throwsArgument("table", () -> x.table(family));
        }
    }

    private static void pressure() {
        Stratalog x = new Stratalog();
        putMany(x, 0, 22);
        x.clear(0, 0, 0);
        due("23 items", x.pressure(0), 0);
        x.clear(0, 0, 0);
        due("24 items", x.pressure(0), 1);
        putMany(x, 0, 15);
        due("39 items", x.pressure(0), 1);
        x.clear(0, 0, 0);
        due("40 items", x.pressure(0), 2);
        due("the other family", x.pressure(1), 0);
        for (int family : NO_FAMILIES) {
            Check.throwsArgument("pressure", () -> x.pressure(family));
        }
        Stratalog y = new Stratalog();
        int[] want = {0, 0, 0, 1, 1, 2, 2};
        for (int i = 0; i < 6; i++) {
            oneRun(y, 1, 1);
            due(i + 1 + " runs", y.pressure(1), want[i]);
        }
        Check.throwsState("put with 6 runs", () -> y.put(1, 1, 1));
        takeOf(y, 1, 1, 1, 1);
        due("7 runs", y.pressure(1), 2);
        y.compact(1);
        due("compacted", y.pressure(1), 0);
    }

    // ---- promises 26 to 29

    private static void sync() {
        Stratalog x = new Stratalog();
        x.put(0, 1, 1);
        x.clear(1, 1, 1);
        x.begin();
        x.write(0, 0, 2, 1);
        x.write(0, 0, 3, 1);
        x.commit(0);
        due("sync", x.sync(), 3);
        due("sync again", x.sync(), 0);
        due("what is synced is left", x.crash(0), 4);
        due("in the tables", x.table(0), 3);
        due("get", x.get(0, 3, NONE), 1);
    }

    private static void unsure() {
        Stratalog x = new Stratalog();
        x.put(0, 1, 1);
        x.mark(1, 1);
        due("two records", x.unsure(), 2);
        due("asking changes nothing", x.unsure(), 2);
        x.row(1, 1);
        due("a drafted row is none", x.unsure(), 2);
        x.sync();
        due("synced", x.unsure(), 0);
        x.put(0, 1, 1);
        x.flush(1);
        due("a flush syncs", x.unsure(), 0);
        x.put(0, 1, 1);
        x.compact(0);
        x.whole(0);
        due("compaction does not", x.unsure(), 1);
        x.crash(1);
        due("what is left is sure", x.unsure(), 0);
        due("and left by the next crash", x.crash(0), 4);
    }

    private static void crash() {
        Stratalog x = new Stratalog();
        x.put(0, 1, 1);
        x.sync();
        x.put(0, 1, 2);
        x.put(1, 1, 3);
        x.clear(0, 0, 63);
        Check.throwsArgument("crash below", () -> x.crash(-1));
        Check.throwsArgument("crash above", () -> x.crash(101));
        Check.throwsArgument("crash least", () -> x.crash(Integer.MIN_VALUE));
        due("nothing changed", x.unsure(), 3);
        due("crash that leaves two", x.crash(2), 3);
        due("number", x.number(), 3);
        due("the first ones are left", x.get(0, 1, NONE), 2);
        due("in both families", x.get(1, 1, NONE), 3);
        due("the number goes on", x.put(0, 2, 2), 4);
        due("crash that leaves none", x.crash(0), 3);
        due("lost", x.get(0, 2, NONE), NO_VALUE);
        x.put(1, 2, 2);
        x.clear(1, 0, 1);
        due("crash that leaves none", x.crash(0), 3);
        due("lost in the other family", x.table(1), 1);
        due("get there", x.get(1, 1, NONE), 3);
        x.put(0, 2, 2);
        due("crash that leaves all", x.crash(100), 4);
        due("left", x.get(0, 2, NONE), 2);
        x.begin();
        x.snapshot();
        x.write(0, 0, 1, 5);
        x.crash(0);
        Check.throwsIndex("the transaction ended", () -> x.commit(0));
        Check.throwsIndex("the snapshot ended", () -> x.get(0, 0, 0));
        due("what waited is lost", x.get(0, 1, NONE), 2);
    }

    private static void crashGoesOn() {
        Stratalog x = new Stratalog();
        x.put(0, 1, 1);
        x.put(0, 2, 2);
        x.mark(0, 2);
        x.flush(0);
        x.whole(0);
        due("the greatest number in a run is less", x.run(0, 3, 0, 3), 1);
        due("whatever was merged", x.crash(0), 3);
        due("put", x.put(0, 3, 3), 4);
        takeOf(x, 1, 0, 5, 1);
        x.put(0, 4, 4);
        due("after what was taken in", x.crash(0), 5);
        due("tables are made anew", x.table(0), 1);
        due("get", x.get(0, 3, NONE), 3);
        x.put(0, 5, 5);
        x.put(0, 6, 6);
        x.flush(1);
        x.put(0, 7, 7);
        due("a flush of the other family synced", x.crash(0), 7);
        due("in the table", x.table(0), 3);
        x.add(0, 5, 1);
        x.clear(0, 5, 6);
        x.crash(1);
        due("a CLEAR that is lost", x.get(0, 5, NONE), 6);
        due("a key beside", x.get(0, 6, NONE), 6);
    }

    private static void cut() {
        Stratalog x = new Stratalog();
        for (int family : NO_FAMILIES) {
            Check.throwsArgument("cut", () -> x.cut(family, true));
            Check.throwsArgument("cut", () -> x.cut(family, false));
        }
        x.put(0, 1, 1);
        x.put(1, 2, 2);
        x.snapshot();
        x.begin();
        due("cut of a flush syncs", x.cut(0, true), 2);
        due("but it flushed nothing", x.level(0, 0, 0), 0);
        due("the table is as it was", x.table(0), 1);
        due("the other table too", x.table(1), 1);
        Check.throwsIndex("the snapshot ended", () -> x.release(0));
        Check.throwsIndex("the transaction ended", () -> x.commit(0));
        x.put(0, 3, 3);
        due("cut of a compaction does not sync", x.cut(0, false), 2);
        due("lost", x.get(0, 3, NONE), NO_VALUE);
        x.put(1, 3, 3);
        due("cut of a flush of an empty table", new Stratalog().cut(0, true), 0);
        due("cut of the other family's flush", x.cut(0, true), 3);
        due("left", x.get(1, 3, NONE), 3);
        for (int i = 0; i < 4; i++) {
            oneRun(x, 0, 1);
        }
        x.cut(0, false);
        due("no run was merged", x.level(0, 0, 0), 4);
        due("compact", x.compact(0), 0);
    }
}
