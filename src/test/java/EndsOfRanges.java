/** Each argument of each call at both ends of its range: the call answers, and it does what it says. */
final class EndsOfRanges extends TestBase {
    private static final int[] FAMILIES = {0, 1};
    private static final int[] KEYS = {0, 63};
    private static final int[] VALUES = {-9999, 9999};

    private EndsOfRanges() {
    }

    static void all() {
        for (int family : FAMILIES) {
            for (int key : KEYS) {
                writes(family, key);
                transactions(family, key);
            }
            clears(family);
            rows(family);
            runs(family);
        }
        snapshots();
        crashes();
    }

    private static void writes(int family, int key) {
        Stratalog x = new Stratalog();
        int number = 0;
        for (int value : VALUES) {
            number++;
            due("put", x.put(family, key, value), number);
            due("get of the put", x.get(family, key, NONE), value);
            due("next of the put", x.next(family, key, true, NONE), key);
            due("next of the put, backward", x.next(family, key, false, NONE), key);
        }
        due("mark", x.mark(family, key), 3);
        due("get of the marked", x.get(family, key, NONE), NO_VALUE);
        due("add", x.add(family, key, -9999), 4);
        due("add", x.add(family, key, -9999), 5);
        due("get of the sum", x.get(family, key, NONE), -19998);
        due("add", x.add(family, key, 9999), 6);
        due("get of the sum", x.get(family, key, NONE), -9999);
        due("table", x.table(family), 6);
        due("the other table", x.table(1 - family), 0);
        due("get in the other family", x.get(1 - family, key, NONE), NO_VALUE);
        due("get at the other end", x.get(family, 63 - key, NONE), NO_VALUE);
        due("unsure", x.unsure(), 6);
    }

    private static void clears(int family) {
        int[][] ranges = {{0, 0}, {0, 1}, {0, 63}, {1, 62}, {62, 63}, {63, 63}};
        for (int[] range : ranges) {
            Stratalog x = new Stratalog();
            for (int f : FAMILIES) {
                for (int key : new int[] {0, 1, 30, 62, 63}) {
                    x.put(f, key, key);
                }
            }
            due("clear", x.clear(family, range[0], range[1]), 11);
            for (int key : new int[] {0, 1, 30, 62, 63}) {
                boolean isIn = key >= range[0] && key <= range[1];
                due("get of " + key, x.get(family, key, NONE), isIn ? NO_VALUE : key);
                due("get of " + key + " in the other family", x.get(1 - family, key, NONE), key);
            }
        }
    }

    private static void transactions(int family, int key) {
        Stratalog x = new Stratalog();
        for (int t = 0; t < 30; t++) {
            due("begin", x.begin(), t);
        }
        for (int t : new int[] {0, 29}) {
            due("read", x.read(t, family, key), NO_VALUE);
            for (int value : new int[] {-9999, 9999, NO_VALUE, 9999}) {
                due("write", x.write(t, family, key, value), 1);
                due("read of the waiting", x.read(t, family, key), value);
            }
            due("read in the other family", x.read(t, 1 - family, key), NO_VALUE);
            due("read at the other end", x.read(t, family, 63 - key), NO_VALUE);
        }
        due("commit", x.commit(0), DONE);
        due("number", x.number(), 1);
        due("get", x.get(family, key, NONE), 9999);
        due("commit of the last one", x.commit(29), CONFLICT);
        due("number", x.number(), 1);
    }

    private static void rows(int family) {
        for (int value : VALUES) {
            Stratalog x = new Stratalog();
            due("row", x.row(0, value), 1);
            due("row", x.row(63, value), 2);
            due("take", x.take(family), 3);
            dueRun(x, family, 3, 0, new int[] {0, 63, 2, 1});
            dueLevel(x, 1 - family, 3, new int[] {0, 0, 0, 0});
            dueValues(x, family, 0, NONE, value, NO_VALUE);
            dueValues(x, family, 62, NONE, NO_VALUE, value);
        }
    }

    /** A run in each level, two of them in the level 0; and what each of them is told to be. */
    private static void runs(int family) {
        Stratalog x = new Stratalog();
        footing(x, family);
        due("take", takeOf(x, family, 5, 16, 1), 1);
        x.put(family, 0, 1);
        x.clear(family, 1, 2);
        due("flush", x.flush(family), 1);
        x.put(family, 63, 1);
        due("flush", x.flush(family), 1);
        due("table", x.table(family), 0);
        due("pressure", x.pressure(family), 0);
        dueLevel(x, family, 0, new int[] {2, 2, 1, 50});
        dueLevel(x, family, 1, new int[] {1, 12, 0, 100});
        dueLevel(x, family, 2, new int[] {1, 2, 0, 4});
        dueLevel(x, family, 3, new int[] {1, 2, 0, 0});
        dueRun(x, family, 0, 0, new int[] {63, 63, 1, 6});
        dueRun(x, family, 0, 1, new int[] {0, 2, 1, 5});
        dueRun(x, family, 1, 0, new int[] {5, 16, 12, 3});
        dueRun(x, family, 2, 0, new int[] {0, 63, 2, 2});
        dueRun(x, family, 3, 0, new int[] {0, 63, 2, 1});
        for (int level = 0; level < 4; level++) {
            dueLevel(x, 1 - family, level, new int[] {0, 0, 0, 0});
        }
        due("compact of the other family", x.compact(1 - family), NONE);
        due("compact", x.compact(family), 1);
        due("whole of the other family", x.whole(1 - family), 0);
        due("whole", x.whole(family), 4);
        x.put(family, 1, 1);
        due("cut of a compaction", x.cut(family, false), 6);
        x.put(family, 1, 1);
        due("cut of a flush", x.cut(family, true), 7);
    }

    private static void snapshots() {
        Stratalog x = new Stratalog();
        for (int s = 0; s < 30; s++) {
            x.put(0, 0, s);
            due("snapshot", x.snapshot(), s);
        }
        x.put(0, 0, 30);
        x.flush(0);
        for (int s : new int[] {0, 1, 28, 29}) {
            due("get by " + s, x.get(0, 0, s), s);
            due("next by " + s, x.next(0, 0, true, s), 0);
            due("pins of " + s, x.pins(s), 1);
        }
        due("get by NONE", x.get(0, 0, NONE), 30);
        due("next by NONE", x.next(0, 63, false, NONE), 0);
        x.release(29);
        x.release(0);
        Check.throwsIndex("get by the first one", () -> x.get(0, 0, 0));
        Check.throwsIndex("get by the last one", () -> x.get(0, 0, 29));
        due("get by the second one", x.get(0, 0, 1), 1);
        due("get by the last but one", x.get(0, 0, 28), 28);
    }

    private static void crashes() {
        Stratalog x = new Stratalog();
        x.put(0, 0, 1);
        due("crash(0)", x.crash(0), 0);
        x.put(0, 0, 1);
        due("crash(100)", x.crash(100), 1);
        due("get", x.get(0, 0, NONE), 1);
    }
}
