/**
 * Each argument at both ends of its range and beyond each end; each exception, and of several that apply the one
 * that the promise lists first; and that a call that throws changes nothing.
 */
public final class ArgumentTests extends TestBase {
    private static final int LEAST = Integer.MIN_VALUE;
    private static final int GREATEST = Integer.MAX_VALUE;
    private static final String ARGUMENT = "IllegalArgumentException";
    private static final String STATE = "IllegalStateException";
    private static final String INDEX = "IndexOutOfBoundsException";

    private final Twins twins;

    private ArgumentTests(String name, Script made) {
        Check.about(name);
        twins = new Twins(made);
    }

    public static void main(String[] args) {
        ArgumentTests fresh = new ArgumentTests("a new object", x -> { });
        fresh.wrongOutsideOfTransactions();
        fresh.wrongPlaces(0, new int[] {0, 0, 0, 0});
        fresh.wrongPlaces(1, new int[] {0, 0, 0, 0});
        fresh.noDraft();
        fresh.noSnapshots(0, 1, 29);
        fresh.noTransactions(0, 1, 29);

        ArgumentTests rich = new ArgumentTests("something of all", ArgumentTests::rich);
        rich.wrongOutsideOfTransactions();
        rich.wrongInTransaction(3);
        rich.wrongPlaces(0, new int[] {2, 1, 1, 1});
        rich.wrongPlaces(1, new int[] {1, 0, 0, 1});
        rich.wrongDraft(20);
        rich.noSnapshots(0, 3, 29);
        rich.noTransactions(0, 1, 5, 29);

        ArgumentTests stalled = new ArgumentTests("a full table", ArgumentTests::fullTable);
        stalled.wrongOutsideOfTransactions();
        stalled.wrongInTransaction(0);
        stalled.pressure(0);
        stalled.noDraft();
        stalled.commitUnderPressure(0, 2, 4);
        stalled.noTransactions(3);

        ArgumentTests piled = new ArgumentTests("a full level 0", ArgumentTests::fullLevel);
        piled.wrongOutsideOfTransactions();
        piled.pressure(1);
        piled.commitUnderPressure(0);
        piled.wrongPlaces(1, new int[] {6, 0, 0, 1});

        ArgumentTests full = new ArgumentTests("30 snapshots and 30 transactions", ArgumentTests::fullViews);
        full.wrongOutsideOfTransactions();
        full.wrongInTransaction(29);
        full.wrongInTransaction(0);
        full.noSnapshots(10, 30);
        full.noTransactions(10, 30);
        full.throwsOf("snapshot()", STATE, x -> x.snapshot());
        full.throwsOf("begin()", STATE, x -> x.begin());

        Check.about("both ends");
        EndsOfRanges.all();
        System.out.println("ArgumentTests");
        Check.end();
    }

    // ---- states

    /** Runs in all levels, tables, views of which some have ended, records that are not sure, a draft. */
    private static void rich(Stratalog x) {
        footing(x, 0);
        takeOf(x, 0, 4, 9, 3);
        takeKeys(x, 1, 0, 5, 63);
        x.snapshot();
        x.begin();
        x.put(0, 5, 1);
        x.clear(0, 60, 63);
        x.flush(0);
        x.snapshot();
        x.begin();
        x.begin();
        x.begin();
        x.begin();
        x.write(0, 0, 5, 1);
        x.commit(0);
        x.read(1, 0, 5);
        x.read(2, 0, 5);
        x.add(0, 5, 2);
        x.mark(0, 6);
        x.flush(0);
        x.commit(1);
        x.snapshot();
        x.release(0);
        x.mark(1, 5);
        x.flush(1);
        x.read(3, 0, 8);
        x.read(3, 1, 8);
        x.write(3, 0, 9, 9);
        x.write(3, 1, 9, NO_VALUE);
        x.sync();
        x.put(0, 7, 7);
        x.put(1, 7, 7);
        x.add(0, 7, 1);
        x.clear(1, 40, 45);
        x.row(10, 10);
        x.row(20, 20);
        x.get(0, 5, NONE);
    }

    private static void fullTable(Stratalog x) {
        for (int t = 0; t < 5; t++) {
            x.begin();
        }
        x.read(0, 0, 5);
        x.write(0, 0, 8, 1);
        x.read(1, 0, 6);
        x.read(1, 0, 63);
        x.write(2, 0, 0, 1);
        x.write(2, 1, 0, 1);
        x.write(3, 1, 5, 1);
        x.commit(3);
        x.write(4, 0, 63, NO_VALUE);
        x.clear(0, 20, 30);
        for (int i = 0; i < 39; i++) {
            x.add(0, i % 5, i);
        }
    }

    private static void fullLevel(Stratalog x) {
        takeKeys(x, 1, 0, 63);
        x.begin();
        x.read(0, 1, 5);
        x.write(0, 1, 6, 1);
        for (int i = 0; i < 6; i++) {
            oneRun(x, 1, 30 + i);
        }
        x.snapshot();
        x.begin();
        x.begin();
        x.begin();
        x.get(1, 30, NONE);
        x.put(0, 5, 5);
    }

    private static void fullViews(Stratalog x) {
        for (int i = 0; i < 30; i++) {
            x.put(0, i, i);
            x.snapshot();
            x.begin();
        }
        x.release(10);
        x.commit(10);
        x.write(29, 0, 5, 5);
        x.read(29, 0, 63);
        x.flush(0);
        x.put(1, 1, 1);
    }

    // ---- calls that throw

    private void throwsOf(String call, String exception, Script wrong) {
        twins.compare(call, exception, wrong);
    }

    /** Arguments that are wrong in any state but a wrong place, snapshot or transaction. */
    private void wrongOutsideOfTransactions() {
        for (int f : NO_FAMILIES) {
            wrongFamily(f);
        }
        for (int k : NO_KEYS) {
            wrongKey(k);
        }
        for (int v : NO_VALUES) {
            throwsOf("put(0, 6, " + v + ")", ARGUMENT, x -> x.put(0, 6, v));
            throwsOf("add(0, 6, " + v + ")", ARGUMENT, x -> x.add(0, 6, v));
            throwsOf("row(50, " + v + ")", ARGUMENT, x -> x.row(50, v));
        }
        throwsOf("put of NO_VALUE", ARGUMENT, x -> x.put(0, 6, NO_VALUE));
        throwsOf("row of NO_VALUE", ARGUMENT, x -> x.row(50, NO_VALUE));
        throwsOf("clear(0, 6, 5)", ARGUMENT, x -> x.clear(0, 6, 5));
        throwsOf("clear(0, 63, 0)", ARGUMENT, x -> x.clear(0, 63, 0));
        throwsOf("clear(0, 63, 62)", ARGUMENT, x -> x.clear(0, 63, 62));
        for (int wrong : new int[] {-1, 4, LEAST, GREATEST}) {
            throwsOf("level(0, " + wrong + ", 0)", ARGUMENT, x -> x.level(0, wrong, 0));
            throwsOf("level(0, 0, " + wrong + ")", ARGUMENT, x -> x.level(0, 0, wrong));
            throwsOf("run(0, " + wrong + ", 0, 0)", ARGUMENT, x -> x.run(0, wrong, 0, 0));
            throwsOf("run(0, 0, 0, " + wrong + ")", ARGUMENT, x -> x.run(0, 0, 0, wrong));
            throwsOf("run(0, 0, -1, " + wrong + ")", ARGUMENT, x -> x.run(0, 0, -1, wrong));
            throwsOf("run(0, " + wrong + ", 99, 0)", ARGUMENT, x -> x.run(0, wrong, 99, 0));
        }
        for (int left : new int[] {-1, 101, LEAST, GREATEST}) {
            throwsOf("crash(" + left + ")", ARGUMENT, x -> x.crash(left));
        }
        for (int s : new int[] {-2, 30, LEAST, GREATEST}) {
            wrongSnapshot(s);
        }
        throwsOf("release(NONE)", INDEX, x -> x.release(NONE));
        throwsOf("pins(NONE)", INDEX, x -> x.pins(NONE));
        for (int t : new int[] {-1, 30, LEAST, GREATEST}) {
            wrongTransaction(t);
        }
    }

    private void wrongFamily(int f) {
        throwsOf("put(" + f + ", 6, 1)", ARGUMENT, x -> x.put(f, 6, 1));
        throwsOf("mark(" + f + ", 6)", ARGUMENT, x -> x.mark(f, 6));
        throwsOf("add(" + f + ", 6, 1)", ARGUMENT, x -> x.add(f, 6, 1));
        throwsOf("clear(" + f + ", 6, 6)", ARGUMENT, x -> x.clear(f, 6, 6));
        throwsOf("get(" + f + ", 6, NONE)", ARGUMENT, x -> x.get(f, 6, NONE));
        throwsOf("next(" + f + ", 6, true, NONE)", ARGUMENT, x -> x.next(f, 6, true, NONE));
        throwsOf("get(" + f + ", 6, 30)", ARGUMENT, x -> x.get(f, 6, 30));
        throwsOf("next(" + f + ", 6, false, 30)", ARGUMENT, x -> x.next(f, 6, false, 30));
        throwsOf("flush(" + f + ")", ARGUMENT, x -> x.flush(f));
        throwsOf("compact(" + f + ")", ARGUMENT, x -> x.compact(f));
        throwsOf("whole(" + f + ")", ARGUMENT, x -> x.whole(f));
        throwsOf("take(" + f + ")", ARGUMENT, x -> x.take(f));
        throwsOf("level(" + f + ", 0, 0)", ARGUMENT, x -> x.level(f, 0, 0));
        throwsOf("run(" + f + ", 0, 0, 0)", ARGUMENT, x -> x.run(f, 0, 0, 0));
        throwsOf("run(" + f + ", 0, 99, 0)", ARGUMENT, x -> x.run(f, 0, 99, 0));
        throwsOf("table(" + f + ")", ARGUMENT, x -> x.table(f));
        throwsOf("pressure(" + f + ")", ARGUMENT, x -> x.pressure(f));
        throwsOf("cut(" + f + ", true)", ARGUMENT, x -> x.cut(f, true));
        throwsOf("cut(" + f + ", false)", ARGUMENT, x -> x.cut(f, false));
    }

    private void wrongKey(int k) {
        for (int f = 0; f < 2; f++) {
            int family = f;
            throwsOf("put(" + f + ", " + k + ", 1)", ARGUMENT, x -> x.put(family, k, 1));
            throwsOf("mark(" + f + ", " + k + ")", ARGUMENT, x -> x.mark(family, k));
            throwsOf("add(" + f + ", " + k + ", 1)", ARGUMENT, x -> x.add(family, k, 1));
            throwsOf("clear(" + f + ", " + k + ", 63)", ARGUMENT, x -> x.clear(family, k, 63));
            throwsOf("clear(" + f + ", 0, " + k + ")", ARGUMENT, x -> x.clear(family, 0, k));
            throwsOf("get(" + f + ", " + k + ", NONE)", ARGUMENT, x -> x.get(family, k, NONE));
            throwsOf("get(" + f + ", " + k + ", -2)", ARGUMENT, x -> x.get(family, k, -2));
            throwsOf("next(" + f + ", " + k + ", true, NONE)", ARGUMENT, x -> x.next(family, k, true, NONE));
            throwsOf("next(" + f + ", " + k + ", false, NONE)", ARGUMENT, x -> x.next(family, k, false, NONE));
            throwsOf("next(" + f + ", " + k + ", true, 30)", ARGUMENT, x -> x.next(family, k, true, 30));
        }
        throwsOf("clear(0, " + k + ", " + k + ")", ARGUMENT, x -> x.clear(0, k, k));
        throwsOf("row(" + k + ", 1)", ARGUMENT, x -> x.row(k, 1));
    }

    /** The key 6 has other runs to look into than the key that was read last. */
    private void wrongSnapshot(int s) {
        throwsOf("get(0, 6, " + s + ")", INDEX, x -> x.get(0, 6, s));
        throwsOf("get(1, 63, " + s + ")", INDEX, x -> x.get(1, 63, s));
        throwsOf("next(0, 0, true, " + s + ")", INDEX, x -> x.next(0, 0, true, s));
        throwsOf("next(1, 63, false, " + s + ")", INDEX, x -> x.next(1, 63, false, s));
        throwsOf("release(" + s + ")", INDEX, x -> x.release(s));
        throwsOf("pins(" + s + ")", INDEX, x -> x.pins(s));
    }

    private void wrongTransaction(int t) {
        throwsOf("read(" + t + ", 0, 6)", INDEX, x -> x.read(t, 0, 6));
        throwsOf("read(" + t + ", 2, 6)", INDEX, x -> x.read(t, 2, 6));
        throwsOf("read(" + t + ", 0, 64)", INDEX, x -> x.read(t, 0, 64));
        throwsOf("write(" + t + ", 0, 6, 1)", INDEX, x -> x.write(t, 0, 6, 1));
        throwsOf("write(" + t + ", -1, 6, 1)", INDEX, x -> x.write(t, -1, 6, 1));
        throwsOf("write(" + t + ", 0, -1, 1)", INDEX, x -> x.write(t, 0, -1, 1));
        throwsOf("write(" + t + ", 0, 6, 10000)", INDEX, x -> x.write(t, 0, 6, 10000));
        throwsOf("commit(" + t + ")", INDEX, x -> x.commit(t));
    }

    private void noSnapshots(int... ended) {
        for (int s : ended) {
            wrongSnapshot(s);
        }
    }

    private void noTransactions(int... over) {
        for (int t : over) {
            wrongTransaction(t);
        }
    }

    /** Arguments that are wrong beside a transaction that is not over. */
    private void wrongInTransaction(int t) {
        for (int f : NO_FAMILIES) {
            throwsOf("read(" + t + ", " + f + ", 6)", ARGUMENT, x -> x.read(t, f, 6));
            throwsOf("write(" + t + ", " + f + ", 6, 1)", ARGUMENT, x -> x.write(t, f, 6, 1));
            throwsOf("write(" + t + ", " + f + ", 6, NO_VALUE)", ARGUMENT, x -> x.write(t, f, 6, NO_VALUE));
        }
        for (int k : NO_KEYS) {
            for (int f = 0; f < 2; f++) {
                int family = f;
                throwsOf("read(" + t + ", " + f + ", " + k + ")", ARGUMENT, x -> x.read(t, family, k));
                throwsOf("write(" + t + ", " + f + ", " + k + ", 1)", ARGUMENT, x -> x.write(t, family, k, 1));
            }
        }
        for (int v : new int[] {-10000, 10000, NO_VALUE - 1, NO_VALUE + 1, LEAST, GREATEST}) {
            throwsOf("write(" + t + ", 0, 6, " + v + ")", ARGUMENT, x -> x.write(t, 0, 6, v));
        }
    }

    private void wrongPlaces(int f, int[] counts) {
        for (int l = 0; l < counts.length; l++) {
            int level = l;
            for (int place : new int[] {-1, counts[l], LEAST, GREATEST}) {
                for (int w = 0; w < 4; w++) {
                    int what = w;
                    String call = "run(" + f + ", " + level + ", " + place + ", " + what + ")";
                    throwsOf(call, INDEX, x -> x.run(f, level, place, what));
                }
            }
        }
    }

    private void wrongDraft(int last) {
        throwsOf("row at the last key", ARGUMENT, x -> x.row(last, 1));
        throwsOf("row ahead of the last key", ARGUMENT, x -> x.row(last - 1, 1));
        throwsOf("row at the key 0", ARGUMENT, x -> x.row(0, 1));
    }

    private void noDraft() {
        throwsOf("take(0)", STATE, x -> x.take(0));
        throwsOf("take(1)", STATE, x -> x.take(1));
    }

    private void pressure(int f) {
        for (int k : new int[] {0, 6, 63}) {
            throwsOf("put under pressure", STATE, x -> x.put(f, k, 1));
            throwsOf("mark under pressure", STATE, x -> x.mark(f, k));
            throwsOf("add under pressure", STATE, x -> x.add(f, k, 1));
            throwsOf("clear under pressure", STATE, x -> x.clear(f, k, 63));
        }
        throwsOf("clear of all under pressure", STATE, x -> x.clear(f, 0, 63));
        throwsOf("put under pressure, no key", ARGUMENT, x -> x.put(f, 64, 1));
        throwsOf("put under pressure, no value", ARGUMENT, x -> x.put(f, 6, 10000));
        throwsOf("mark under pressure, no key", ARGUMENT, x -> x.mark(f, -1));
        throwsOf("add under pressure, no key", ARGUMENT, x -> x.add(f, -1, 1));
        throwsOf("add under pressure, no value", ARGUMENT, x -> x.add(f, 6, -10000));
        throwsOf("clear under pressure, backward", ARGUMENT, x -> x.clear(f, 6, 5));
        throwsOf("clear under pressure, no key", ARGUMENT, x -> x.clear(f, 6, 64));
    }

    private void commitUnderPressure(int... transactions) {
        for (int t : transactions) {
            throwsOf("commit(" + t + ") under pressure", STATE, x -> x.commit(t));
        }
    }
}
