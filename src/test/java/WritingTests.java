/** The edges of the part 'Writing', of get(), next() and looked(), and of the filters. */
public final class WritingTests extends TestBase {
    private WritingTests() {
    }

    public static void main(String[] args) {
        numbersBegin();
        numbersOfRefusedCalls();
        placesOfWrites();
        familiesAreApart();
        clearsOfRanges();
        readsByNumbers();
        readsOfAdds();
        readsAcrossLevels();
        entryAndClearMeet();
        nextAtTheEnds();
        nextOverGaps();
        nextBySnapshots();
        lookedAtSpans();
        lookedInAllLevels();
        lookedAfterMerging();
        lookedByFilters();
        lookedStays();
        clearsInEachLevel();
        System.out.println("WritingTests");
        Check.end();
    }

    private static void numbersBegin() {
        Check.about("each write has a number, from 1 on");
        due("put", new Stratalog().put(0, 0, 0), 1);
        due("mark", new Stratalog().mark(0, 0), 1);
        due("add", new Stratalog().add(0, 0, 0), 1);
        due("clear", new Stratalog().clear(0, 0, 0), 1);
        Stratalog x = new Stratalog();
        due("number ahead of all", x.number(), 0);
        due("put", x.put(1, 1, 1), 1);
        due("mark", x.mark(0, 1), 2);
        due("add", x.add(1, 1, 1), 3);
        due("clear", x.clear(0, 1, 1), 4);
        due("number", x.number(), 4);
        x.begin();
        x.write(0, 0, 1, 1);
        x.write(0, 0, 2, 1);
        x.write(0, 1, 2, 1);
        due("commit", x.commit(0), DONE);
        due("a number for each write of a transaction", x.number(), 7);
        due("put", x.put(1, 1, 1), 8);
        x.row(1, 1);
        x.row(2, 1);
        x.take(0);
        due("one number for all rows", x.number(), 9);
        x.flush(0);
        x.flush(1);
        x.whole(0);
        x.compact(0);
        x.sync();
        x.snapshot();
        x.release(0);
        x.begin();
        x.commit(1);
        due("nothing else takes one", x.number(), 9);
        due("put", x.put(1, 1, 1), 10);
    }

    private static void numbersOfRefusedCalls() {
        Check.about("a refused call takes no number");
        Stratalog x = new Stratalog();
        putMany(x, 0, 40);
        Check.throwsState("put", () -> x.put(0, 0, 1));
        Check.throwsState("clear", () -> x.clear(0, 0, 1));
        Check.throwsArgument("put", () -> x.put(1, 64, 1));
        due("put", x.put(1, 0, 1), 41);
        due("unsure", x.unsure(), 41);
        due("table", x.table(0), 40);
        due("the other table", x.table(1), 1);
        due("get", x.get(0, 0, NONE), 0);
    }

    private static void placesOfWrites() {
        Check.about("a write comes behind the log and into the table of its family");
        for (int family = 0; family < 2; family++) {
            Stratalog x = new Stratalog();
            x.put(family, 0, 1);
            due("table after a PUT", x.table(family), 1);
            x.mark(family, 0);
            due("table after a MARK", x.table(family), 2);
            x.add(family, 0, 1);
            due("table after an ADD", x.table(family), 3);
            x.clear(family, 0, 63);
            due("table after a CLEAR", x.table(family), 4);
            due("unsure", x.unsure(), 4);
            due("the other table", x.table(1 - family), 0);
            due("runs", x.level(family, 0, 0), 0);
            x.begin();
            for (int key = 0; key < 64; key++) {
                due("write", x.write(0, family, key, key), key + 1);
            }
            x.commit(0);
            due("table after a commit", x.table(family), 68);
            due("unsure after a commit", x.unsure(), 5);
            due("number after a commit", x.number(), 68);
            due("flush of 67 entries", x.flush(family), 67);
            dueRuns(x, family, 0, new int[][] {{0, 63, 67}});
        }
    }

    private static void familiesAreApart() {
        Check.about("two families with the same keys");
        Stratalog x = new Stratalog();
        for (int key : new int[] {0, 31, 63}) {
            x.put(0, key, key);
            x.put(1, key, 100 + key);
        }
        x.clear(0, 0, 30);
        x.mark(1, 63);
        for (int step = 0; step < 4; step++) {
            due("get(0, 0)", x.get(0, 0, NONE), NO_VALUE);
            due("get(1, 0)", x.get(1, 0, NONE), 100);
            due("get(0, 31)", x.get(0, 31, NONE), 31);
            due("get(1, 31)", x.get(1, 31, NONE), 131);
            due("get(0, 63)", x.get(0, 63, NONE), 63);
            due("get(1, 63)", x.get(1, 63, NONE), NO_VALUE);
            if (step < 2) {
                x.flush(step);
            } else {
                x.whole(step - 2);
            }
        }
        due("entries of the family 0", x.level(0, 3, 1), 2);
        due("entries of the family 1", x.level(1, 3, 1), 2);
    }

    private static void clearsOfRanges() {
        int[][] ranges = {{0, 0}, {0, 1}, {63, 63}, {62, 63}, {0, 63}, {1, 62}, {31, 31}, {31, 32}};
        for (int[] range : ranges) {
            int from = range[0];
            int to = range[1];
            Check.about("CLEAR of " + from + " to " + to);
            Stratalog x = new Stratalog();
            takeOf(x, 0, 0, 63, 1);
            due("clear", x.clear(0, from, to), 2);
            dueCleared(x, from, to);
            x.flush(0);
            dueRuns(x, 0, 0, new int[][] {{from, to, 0}});
            dueCleared(x, from, to);
            due("whole", x.whole(0), to - from + 1);
            dueCleared(x, from, to);
            due("entries", x.level(0, 3, 1), 63 - to + from);
            due("CLEARs", x.level(0, 3, 2), 0);
        }
    }

    private static void dueCleared(Stratalog x, int from, int to) {
        for (int key : new int[] {0, from - 1, from, to, to + 1, 63}) {
            if (key >= 0 && key < 64) {
                int want = key >= from && key <= to ? NO_VALUE : 1;
                due("get of " + key, x.get(0, key, NONE), want);
            }
        }
    }

    /** How the writes of a test are spread over the table, the runs and the levels. */
    private static final int IN_TABLE = 0, FLUSHED = 1, SPREAD = 2, PACKED = 3, DEEP = 4;

    private static void settle(Stratalog x, int how, int step) {
        boolean isNow = how == SPREAD && step % 2 == 1 || how == PACKED || how == DEEP;
        if (isNow || how == FLUSHED && step == 8) {
            x.flush(0);
        }
        if (how == PACKED) {
            x.compact(0);
        }
        if (how == DEEP) {
            x.whole(0);
        }
    }

    /** The snapshot of each number reads what was written up to it, and not what was written next. */
    private static void readsByNumbers() {
        for (int key : new int[] {0, 40, 63}) {
            for (int how = IN_TABLE; how <= DEEP; how++) {
                Check.about("reading the key " + key + ", way " + how);
                Stratalog x = new Stratalog();
                due("snapshot of the number 0", x.snapshot(), 0);
                for (int step = 0; step < 9; step++) {
                    writeStep(x, key, step);
                    x.snapshot();
                    settle(x, how, step);
                }
                int[] want = {NO_VALUE, 10, 11, NO_VALUE, 2, NO_VALUE, 0, 0, -9, NO_VALUE};
                for (int s = 0; s < want.length; s++) {
                    due("get by the number " + s, x.get(0, key, s), want[s]);
                    int found = want[s] == NO_VALUE ? NONE : key;
                    due("next by the number " + s, x.next(0, key, true, s), found);
                    due("next backward by the number " + s, x.next(0, key, false, s), found);
                }
                due("get now", x.get(0, key, NONE), NO_VALUE);
            }
        }
    }

    private static void writeStep(Stratalog x, int key, int step) {
        switch (step) {
            case 0 -> x.put(0, key, 10);
            case 1 -> x.add(0, key, 1);
            case 2 -> x.clear(0, key, key);
            case 3 -> x.add(0, key, 2);
            case 4 -> x.mark(0, key);
            case 5 -> x.add(0, key, 0);
            case 6 -> x.put(0, key, 0);
            case 7 -> x.add(0, key, -9);
            default -> x.clear(0, Math.max(0, key - 1), Math.min(63, key + 1));
        }
    }

    private static void readsOfAdds() {
        Check.about("ADDs are summed up to the first other entry");
        Stratalog x = new Stratalog();
        x.add(0, 1, 5);
        due("one ADD alone", x.get(0, 1, NONE), 5);
        x.add(0, 1, -5);
        due("ADDs that make 0 are a value", x.get(0, 1, NONE), 0);
        x.add(0, 2, 0);
        due("an ADD of 0 is a value", x.get(0, 2, NONE), 0);
        x.put(0, 2, 7);
        due("a PUT hides ADDs below it", x.get(0, 2, NONE), 7);
        x.add(0, 2, 1);
        x.add(0, 2, 1);
        due("a PUT with ADDs above it", x.get(0, 2, NONE), 9);
        x.mark(0, 2);
        due("a MARK alone hides all", x.get(0, 2, NONE), NO_VALUE);
        x.mark(0, 2);
        due("a second MARK", x.get(0, 2, NONE), NO_VALUE);
        x.add(0, 2, 4);
        x.add(0, 2, -6);
        due("ADDs above a MARK", x.get(0, 2, NONE), -2);
        x.put(0, 3, 9999);
        for (int i = 0; i < 9; i++) {
            x.add(0, 3, 9999);
        }
        due("far above the greatest value", x.get(0, 3, NONE), 99990);
        x.mark(0, 3);
        for (int i = 0; i < 9; i++) {
            x.add(0, 3, -9999);
        }
        due("far below the least value", x.get(0, 3, NONE), -89991);
        due("a key beside", x.get(0, 4, NONE), NO_VALUE);
        x.flush(0);
        due("whole", x.whole(0), 27);
        dueValues(x, 0, 0, NONE, NO_VALUE, 0, -2, -89991, NO_VALUE);
    }

    private static void readsAcrossLevels() {
        Check.about("a key is read from the table and all levels together");
        Stratalog x = new Stratalog();
        due("the level 3", takeKeys(x, 0, 5, 7), 3);
        x.row(5, 100);
        x.row(7, 100);
        due("the level 2", x.take(0), 2);
        x.row(5, 200);
        x.row(6, 200);
        due("the level 1", x.take(0), 1);
        x.add(0, 5, 20);
        x.add(0, 7, 20);
        x.flush(0);
        x.add(0, 5, 3);
        x.mark(0, 6);
        x.flush(0);
        x.add(0, 5, 1);
        x.add(0, 6, 1);
        x.add(0, 7, 1);
        dueValues(x, 0, 4, NONE, NO_VALUE, 224, 1, 121, NO_VALUE);
        x.clear(0, 6, 7);
        dueValues(x, 0, 4, NONE, NO_VALUE, 224, NO_VALUE, NO_VALUE, NO_VALUE);
        x.add(0, 7, 9);
        due("an ADD above a CLEAR has nothing to add to", x.get(0, 7, NONE), 9);
    }

    private static void entryAndClearMeet() {
        Check.about("those are left out that have a lower number than a CLEAR");
        Stratalog x = new Stratalog();
        x.clear(0, 5, 5);
        x.put(0, 5, 1);
        due("the next number above the CLEAR", x.get(0, 5, NONE), 1);
        x.clear(0, 5, 5);
        due("the next number below the CLEAR", x.get(0, 5, NONE), NO_VALUE);
        x.add(0, 5, 3);
        due("an ADD above the CLEAR sees nothing below", x.get(0, 5, NONE), 3);
        x.snapshot();
        x.clear(0, 4, 6);
        due("a CLEAR above the number does nothing", x.get(0, 5, 0), 3);
        x.snapshot();
        due("a CLEAR at the number does", x.get(0, 5, 1), NO_VALUE);
        x.put(0, 5, 8);
        x.flush(0);
        due("a CLEAR in a run, the PUT above it", x.get(0, 5, NONE), 8);
        due("a CLEAR in a run", x.get(0, 5, 1), NO_VALUE);
        due("a CLEAR in a run, above the number", x.get(0, 5, 0), 3);
        x.clear(0, 0, 63);
        due("a CLEAR in the table of what is in a run", x.get(0, 5, NONE), NO_VALUE);
        x.snapshot();
        x.flush(0);
        due("a CLEAR in a run of what is in another one", x.get(0, 5, 2), NO_VALUE);
        x.put(0, 5, 4);
        due("in the table, above a CLEAR in a run", x.get(0, 5, NONE), 4);
    }

    // ---- next()

    private static void nextAtTheEnds() {
        Check.about("next at the ends");
        Stratalog x = new Stratalog();
        due("forward, nothing", x.next(0, 0, true, NONE), NONE);
        due("backward, nothing", x.next(0, 63, false, NONE), NONE);
        due("forward at the end, nothing", x.next(0, 63, true, NONE), NONE);
        due("backward at the end, nothing", x.next(0, 0, false, NONE), NONE);
        x.put(0, 0, 0);
        x.add(0, 63, 0);
        for (int round = 0; round < 3; round++) {
            due("forward from 0", x.next(0, 0, true, NONE), 0);
            due("forward from 1", x.next(0, 1, true, NONE), 63);
            due("forward from 62", x.next(0, 62, true, NONE), 63);
            due("forward from 63", x.next(0, 63, true, NONE), 63);
            due("backward from 63", x.next(0, 63, false, NONE), 63);
            due("backward from 62", x.next(0, 62, false, NONE), 0);
            due("backward from 1", x.next(0, 1, false, NONE), 0);
            due("backward from 0", x.next(0, 0, false, NONE), 0);
            due("in the other family", x.next(1, 0, true, NONE), NONE);
            if (round == 0) {
                x.flush(0);
            } else {
                x.whole(0);
            }
        }
        x.mark(0, 0);
        due("forward from the marked", x.next(0, 0, true, NONE), 63);
        due("backward to the marked", x.next(0, 62, false, NONE), NONE);
        x.clear(0, 63, 63);
        due("forward to the cleared", x.next(0, 0, true, NONE), NONE);
        due("backward from the cleared", x.next(0, 63, false, NONE), NONE);
    }

    private static void nextOverGaps() {
        Check.about("next over keys without values");
        Stratalog x = new Stratalog();
        takeKeys(x, 0, 10, 20, 30, 40, 50);
        x.mark(0, 20);
        x.flush(0);
        x.clear(0, 30, 40);
        x.flush(0);
        x.add(0, 35, 1);
        int[] keys = {10, 35, 50};
        for (int key = 0; key < 64; key++) {
            int least = NONE;
            int greatest = NONE;
            for (int each : keys) {
                if (each >= key && least == NONE) {
                    least = each;
                }
                if (each <= key) {
                    greatest = each;
                }
            }
            due("forward from " + key, x.next(0, key, true, NONE), least);
            due("backward from " + key, x.next(0, key, false, NONE), greatest);
        }
    }

    private static void nextBySnapshots() {
        Check.about("next by a snapshot");
        Stratalog x = new Stratalog();
        x.snapshot();
        x.put(0, 5, 1);
        x.snapshot();
        x.put(0, 4, 1);
        x.put(0, 6, 1);
        x.mark(0, 5);
        x.snapshot();
        x.clear(0, 0, 6);
        for (int round = 0; round < 3; round++) {
            due("ahead of all", x.next(0, 0, true, 0), NONE);
            due("one key, forward", x.next(0, 0, true, 1), 5);
            due("one key, backward", x.next(0, 63, false, 1), 5);
            due("forward from behind it", x.next(0, 6, true, 1), NONE);
            due("over the MARK, forward", x.next(0, 5, true, 2), 6);
            due("over the MARK, backward", x.next(0, 5, false, 2), 4);
            due("now, forward", x.next(0, 0, true, NONE), NONE);
            due("now, backward", x.next(0, 63, false, NONE), NONE);
            if (round == 0) {
                x.flush(0);
            } else {
                x.whole(0);
            }
        }
    }

    // ---- looked()

    private static void dueLooked(Stratalog x, int key, int want) {
        x.get(0, key, NONE);
        due("looked for " + key, x.looked(), want);
    }

    private static void lookedAtSpans() {
        Check.about("a run may have a key");
        Stratalog x = new Stratalog();
        dueLooked(x, 0, 0);
        x.put(0, 10, 1);
        x.mark(0, 20);
        x.add(0, 15, 1);
        dueLooked(x, 10, 0);
        x.flush(0);
        dueLooked(x, 9, 0);
        dueLooked(x, 10, 1);
        dueLooked(x, 11, 0);
        dueLooked(x, 15, 1);
        dueLooked(x, 20, 1);
        dueLooked(x, 21, 0);
        x.clear(0, 5, 25);
        x.flush(0);
        dueLooked(x, 5, 0);
        dueLooked(x, 10, 1);
        dueLooked(x, 25, 0);
        x.put(0, 0, 1);
        x.put(0, 63, 1);
        x.flush(0);
        dueLooked(x, 0, 1);
        dueLooked(x, 63, 1);
        dueLooked(x, 10, 1);
        x.put(1, 30, 1);
        x.flush(1);
        dueLooked(x, 30, 0);
        x.get(1, 10, NONE);
        due("looked in the other family", x.looked(), 0);
        x.get(1, 30, NONE);
        due("looked in the other family", x.looked(), 1);
    }

    private static void lookedInAllLevels() {
        Check.about("all of them are looked into");
        Stratalog x = new Stratalog();
        x.snapshot();
        footing(x, 0);
        dueLooked(x, 63, 2);
        takeKeys(x, 0, 0, 5);
        dueLooked(x, 0, 3);
        dueLooked(x, 5, 1);
        oneRun(x, 0, 0);
        oneRun(x, 0, 0);
        dueLooked(x, 0, 5);
        dueLooked(x, 63, 2);
        x.mark(0, 0);
        dueLooked(x, 0, 5);
        x.get(0, 0, 0);
        due("by a snapshot ahead of all", x.looked(), 5);
        x.next(0, 63, true, NONE);
        x.begin();
        x.read(0, 0, 63);
        x.pins(0);
        x.put(0, 63, 1);
        due("looked of the latest get()", x.looked(), 5);
        x.flush(0);
        x.whole(0);
        due("looked of the latest get()", x.looked(), 5);
        dueLooked(x, 63, 1);
        dueLooked(x, 0, 0);
    }

    private static void lookedAfterMerging() {
        Check.about("a run that is merged");
        Stratalog x = new Stratalog();
        takeOf(x, 0, 0, 19, 1);
        due("whole of 20 entries in one run", x.whole(0), 0);
        dueRuns(x, 0, 3, new int[][] {{0, 7, 8}, {8, 15, 8}, {16, 19, 4}});
        for (int key : new int[] {0, 7, 8, 15, 16, 19}) {
            dueLooked(x, key, 1);
        }
        dueLooked(x, 20, 0);
        x.mark(0, 19);
        x.mark(0, 0);
        x.flush(0);
        dueLooked(x, 19, 2);
        x.whole(0);
        dueRuns(x, 0, 3, new int[][] {{0, 8, 8}, {9, 16, 8}, {17, 19, 2}});
        dueLooked(x, 19, 0);
        dueLooked(x, 0, 0);
        dueLooked(x, 8, 1);
    }

    /** The keys 0 and 61, 1 and 62, 2 and 63 are alike in the first filter, no two in the second one. */
    private static void lookedByFilters() {
        Check.about("both filters have to let a key through");
        Stratalog x = new Stratalog();
        x.put(0, 61, 1);
        x.put(0, 62, 1);
        x.put(0, 63, 1);
        x.clear(0, 0, 63);
        x.flush(0);
        for (int key = 0; key < 64; key++) {
            dueLooked(x, key, key >= 61 ? 1 : 0);
        }
        Stratalog y = new Stratalog();
        y.put(0, 0, 1);
        y.put(0, 1, 1);
        y.put(0, 2, 1);
        y.clear(0, 0, 63);
        y.flush(0);
        for (int key = 0; key < 64; key++) {
            dueLooked(y, key, key <= 2 ? 1 : 0);
        }
    }

    private static void lookedStays() {
        Script[] others = {
            x -> x.put(0, 5, 1), x -> x.clear(0, 0, 63), x -> x.next(0, 0, true, 0), x -> x.pins(0), x -> x.release(0),
            x -> x.read(0, 1, 5), x -> x.write(0, 0, 5, 1), x -> x.commit(0), x -> x.flush(0), x -> x.compact(0),
            x -> x.whole(0), x -> x.whole(1), x -> takeKeys(x, 0, 5), x -> x.sync(), x -> x.crash(0), x -> x.crash(100),
            x -> x.cut(0, true), x -> x.cut(1, false), x -> x.level(0, 0, 0), x -> x.run(0, 0, 0, 0)};
        for (int i = 0; i < others.length; i++) {
            Check.about("looked() is of the latest get(), whatever comes then: " + i);
            Stratalog x = new Stratalog();
            for (int run = 0; run < 4; run++) {
                oneRun(x, 0, 5);
            }
            x.snapshot();
            x.begin();
            x.get(0, 5, NONE);
            others[i].on(x);
            due("looked", x.looked(), 4);
            x.get(1, 5, NONE);
            due("looked of the next get()", x.looked(), 0);
        }
    }

    // ---- CLEARs in each level

    /** Rows of all keys in the level 3, and above them a CLEAR of the keys 0 to 5 that lies in a level. */
    private static Stratalog clearInALevel(int family, int level) {
        Stratalog x = new Stratalog();
        due("taken in", takeOf(x, family, 0, 63, 1), 3);
        x.snapshot();
        clearRun(x, family, 0, 5);
        if (level == 1 || level == 2) {
            runOf(x, family, 6, 17);
            oneRun(x, family, 18);
            oneRun(x, family, 19);
            due("compact", x.compact(family), 0);
        }
        if (level == 2) {
            due("compact", x.compact(family), 1);
        }
        if (level == 3) {
            x.whole(family);
        }
        return x;
    }

    private static void clearsInEachLevel() {
        for (int family = 0; family < 2; family++) {
            for (int level = 0; level < 4; level++) {
                Check.about("reads upon a CLEAR in the level " + level + " of the family " + family);
                Stratalog x = clearInALevel(family, level);
                due("CLEARs of the level", x.level(family, level, 2), 1);
                due("its first key", x.get(family, 0, NONE), NO_VALUE);
                due("its last key", x.get(family, 5, NONE), NO_VALUE);
                due("the key above", x.get(family, 6, NONE), 1);
                due("next forward", x.next(family, 0, true, NONE), 6);
                due("next backward", x.next(family, 5, false, NONE), NONE);
                due("its first key by a snapshot", x.get(family, 0, 0), 1);
                due("its last key by a snapshot", x.get(family, 5, 0), 1);
                due("next by a snapshot", x.next(family, 5, false, 0), 5);
                x.begin();
                due("read by a transaction", x.read(0, family, 5), NO_VALUE);
            }
        }
    }
}
