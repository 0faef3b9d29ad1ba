import java.util.ArrayList;
import java.util.Arrays;

/**
 * A tree of sorted runs that is written ahead: two families under one log, tables in memory, levels of
 * runs that are compacted, snapshots, transactions, crashes.
 */
public final class Stratalog {
    /** None. */
    public static final int NONE = -1;
    /** No value. */
    public static final int NO_VALUE = -1000000000;
    /** How commit() ends. */
    public static final int DONE = 0, CONFLICT = 1;

    /** After so many calls the answers are free; so this bounds what has to be kept. */
    private static final int CALLS = 512;
    private static final int FAMILIES = 2;
    private static final int KEYS = 64;
    private static final int LAST_KEY = KEYS - 1;
    private static final int SLOTS = FAMILIES * KEYS;
    private static final int LEVELS = 4;
    private static final int DEEPEST = LEVELS - 1;
    private static final int TELLINGS = 4;
    private static final int GREATEST_VALUE = 9999;
    private static final int MOST_SNAPSHOTS = 30;
    private static final int MOST_TRANSACTIONS = 30;
    private static final int MOST_LEFT = 100;
    private static final int FULL_SCORE = 100;
    private static final int ENTRIES_OF_A_RUN = 8;
    private static final int STALLED = 2;
    /** Above the numbers of all writes. */
    private static final int ENDLESS = 2147483647;

    /** What an item is; GONE is one that the next removeGone() takes away. */
    private static final int PUT = 0, MARK = 1, ADD = 2, CLEAR = 3, GONE = 4;

    private final Family familyZero;
    private final Family familyOne;
    private final Log log;
    private final Snapshots snapshots;
    private final ArrayList<Transaction> transactions;
    private final Merger merger;
    private final Items draft;
    /** The entries of the key that is being read; kept, so that a read makes no objects. */
    private final Items seen;
    private int latest;
    private int lookedInto;

    /** Makes empty families; the number is 0. */
    public Stratalog() {
        familyZero = new Family();
        familyOne = new Family();
        log = new Log();
        snapshots = new Snapshots();
        transactions = new ArrayList<Transaction>();
        merger = new Merger();
        draft = new Items();
        seen = new Items();
        latest = 0;
        lookedInto = 0;
    }

    // ---- writing

    /** Puts a value; returns the number. */
    public int put(int family, int key, int value) throws IllegalArgumentException, IllegalStateException {
        requireArgument(isFamily(family) && isKey(key) && isValue(value));
        return writeEntry(familyOf(family), key, PUT, value);
    }

    /** Marks a key as erased; returns the number. */
    public int mark(int family, int key) throws IllegalArgumentException, IllegalStateException {
        requireArgument(isFamily(family) && isKey(key));
        return writeEntry(familyOf(family), key, MARK, 0);
    }

    /** Adds to a key; returns the number. */
    public int add(int family, int key, int by) throws IllegalArgumentException, IllegalStateException {
        requireArgument(isFamily(family) && isKey(key) && isValue(by));
        return writeEntry(familyOf(family), key, ADD, by);
    }

    /** Clears a range of keys; returns the number. */
    public int clear(int family, int from, int to) throws IllegalArgumentException, IllegalStateException {
        requireArgument(isFamily(family) && isKey(from) && isKey(to) && from <= to);
        Family written = familyOf(family);
        requireState(written.pressureNow() < STALLED);
        latest++;
        written.tableRun().clears.append(from, to, latest, CLEAR, 0);
        written.noteWritten(from, to, latest);
        log.append(latest);
        return latest;
    }

    /** Returns the number of the latest write. */
    public int number() {
        return latest;
    }

    // ---- reading

    /** Reads a key; returns the value or NO_VALUE. */
    public int get(int family, int key, int snapshot) throws IllegalArgumentException, IndexOutOfBoundsException {
        requireArgument(isFamily(family) && isKey(key));
        int by = numberOfView(snapshot);
        Family asked = familyOf(family);
        lookedInto = asked.countRunsThatMayHave(key);
        return valueBy(asked, key, by);
    }

    /** Returns into how many runs the latest get() looked. */
    public int looked() {
        return lookedInto;
    }

    /** Returns the next key that has a value, or NONE. */
    public int next(int family, int key, boolean isForward, int snapshot)
            throws IllegalArgumentException, IndexOutOfBoundsException {
        requireArgument(isFamily(family) && isKey(key));
        int by = numberOfView(snapshot);
        Family asked = familyOf(family);
        int step = isForward ? 1 : -1;
        for (int found = key; found >= 0 && found < KEYS; found += step) {
            if (valueBy(asked, found, by) != NO_VALUE) {
                return found;
            }
        }
        return NONE;
    }

    /** Takes a snapshot; returns its number. */
    public int snapshot() throws IllegalStateException {
        requireState(snapshots.canOpen());
        return snapshots.open(latest);
    }

    /** Releases a snapshot. */
    public void release(int snapshot) throws IndexOutOfBoundsException {
        requireIndex(snapshots.isOpen(snapshot));
        snapshots.end(snapshot);
    }

    /** Returns how many entries a snapshot pins. */
    public int pins(int snapshot) throws IndexOutOfBoundsException {
        requireIndex(snapshots.isOpen(snapshot));
        return countIfWhole(NONE) - countIfWhole(snapshot);
    }

    // ---- transactions

    /** Begins a transaction; returns its number. */
    public int begin() throws IllegalStateException {
        requireState(transactions.size() < MOST_TRANSACTIONS);
        transactions.add(new Transaction(latest));
        return transactions.size() - 1;
    }

    /** Reads a key by a transaction; returns the value or NO_VALUE. */
    public int read(int transaction, int family, int key)
            throws IndexOutOfBoundsException, IllegalArgumentException {
        requireIndex(isOpenTransaction(transaction));
        requireArgument(isFamily(family) && isKey(key));
        Transaction reader = transactions.get(transaction);
        int slot = slotOf(family, key);
        if (reader.hasWaiting(slot)) {
            return reader.waitingAt(slot);
        }
        reader.noteRead(slot);
        return valueBy(familyOf(family), key, reader.beganAt);
    }

    /** Lets a PUT or a MARK wait in a transaction; returns how many wait then. */
    public int write(int transaction, int family, int key, int value)
            throws IndexOutOfBoundsException, IllegalArgumentException {
        requireIndex(isOpenTransaction(transaction));
        requireArgument(isFamily(family) && isKey(key) && (isValue(value) || value == NO_VALUE));
        return transactions.get(transaction).letWait(slotOf(family, key), value);
    }

    /** Commits a transaction; returns DONE or CONFLICT. */
    public int commit(int transaction) throws IndexOutOfBoundsException, IllegalStateException {
        requireIndex(isOpenTransaction(transaction));
        Transaction ending = transactions.get(transaction);
        for (int family = 0; family < FAMILIES; family++) {
            boolean isStalled = familyOf(family).pressureNow() >= STALLED;
            requireState(!isStalled || !ending.hasWaitingFor(family));
        }
        ending.isOver = true;
        if (hasConflict(ending)) {
            return CONFLICT;
        }
        writeWaiting(ending);
        return DONE;
    }

    // ---- runs

    /** Flushes a family; returns how many entries the run has, or NONE if there is none. */
    public int flush(int family) throws IllegalArgumentException {
        requireArgument(isFamily(family));
        Family flushed = familyOf(family);
        log.settle();
        if (flushed.tableSize() == 0) {
            return NONE;
        }
        return flushTable(flushed);
    }

    /** Compacts a family; returns the level of which it took runs, or NONE. */
    public int compact(int family) throws IllegalArgumentException {
        requireArgument(isFamily(family));
        Family compacted = familyOf(family);
        int depth = compacted.fullestLevel();
        if (depth != NONE) {
            compactLevel(compacted, depth);
        }
        return depth;
    }

    /** Compacts a family wholly; returns how many entries its runs have less by that. */
    public int whole(int family) throws IllegalArgumentException {
        requireArgument(isFamily(family));
        Family compacted = familyOf(family);
        int before = compacted.countRunEntries();
        merger.start();
        pinViews(NONE);
        for (int depth = 0; depth < LEVELS; depth++) {
            merger.takeOut(compacted.levelAt(depth), 0, LAST_KEY);
        }
        merger.reduce(compacted, DEEPEST);
        merger.layOut(compacted.levelAt(DEEPEST));
        return before - compacted.countRunEntries();
    }

    /** Drafts a row; returns how many there are then. */
    public int row(int key, int value) throws IllegalArgumentException {
        requireArgument(isKey(key) && isValue(value));
        requireArgument(draft.size() == 0 || draft.firstOf(draft.size() - 1) < key);
        draft.append(key, key, 0, PUT, value);
        return draft.size();
    }

    /** Takes the draft in, which is empty then; returns the level. */
    public int take(int family) throws IllegalArgumentException, IllegalStateException {
        requireArgument(isFamily(family));
        requireState(draft.size() > 0);
        Family taking = familyOf(family);
        int first = draft.firstOf(0);
        int last = draft.firstOf(draft.size() - 1);
        log.settle();
        if (taking.tableRun().hasItemIn(first, last)) {
            flushTable(taking);
        }
        latest++;
        log.settleAt(latest);
        taking.noteRowsWritten(draft, latest);
        int depth = taking.deepestFree(first, last);
        taking.levelAt(depth).place(runOfDraft());
        draft.empty();
        return depth;
    }

    /** Tells of a level: 0 how many runs, 1 how many entries, 2 how many CLEARs, 3 the score. */
    public int level(int family, int level, int what) throws IllegalArgumentException {
        requireArgument(isFamily(family) && isLevel(level) && isTelling(what));
        Level told = familyOf(family).levelAt(level);
        switch (what) {
            case 0:
                return told.countRuns();
            case 1:
                return told.countEntries();
            case 2:
                return told.countClears();
            default:
                return told.score();
        }
    }

    /** Tells of a run: 0 where its span begins, 1 where it ends, 2 how many entries, 3 its greatest number. */
    public int run(int family, int level, int place, int what)
            throws IllegalArgumentException, IndexOutOfBoundsException {
        requireArgument(isFamily(family) && isLevel(level) && isTelling(what));
        Level holder = familyOf(family).levelAt(level);
        requireIndex(place >= 0 && place < holder.countRuns());
        Run told = holder.runs.get(place);
        switch (what) {
            case 0:
                return told.begins;
            case 1:
                return told.ends;
            case 2:
                return told.entries.size();
            default:
                return told.greatestNumber();
        }
    }

    /** Returns how many entries and CLEARs are in the table of a family. */
    public int table(int family) throws IllegalArgumentException {
        requireArgument(isFamily(family));
        return familyOf(family).tableSize();
    }

    /** Returns the pressure of a family: 0, 1 or 2. */
    public int pressure(int family) throws IllegalArgumentException {
        requireArgument(isFamily(family));
        return familyOf(family).pressureNow();
    }

    // ---- the log

    /** Syncs the log; returns how many records were not sure. */
    public int sync() {
        int were = log.countUnsure();
        log.settle();
        return were;
    }

    /** Returns how many records are not sure. */
    public int unsure() {
        return log.countUnsure();
    }

    /** Crashes; returns the number of the last write that is left. */
    public int crash(int left) throws IllegalArgumentException {
        requireArgument(left >= 0 && left <= MOST_LEFT);
        return crashLeaving(left);
    }

    /** Crashes in the midst of a flush or a compaction; returns the number of the last write that is left. */
    public int cut(int family, boolean isFlush) throws IllegalArgumentException {
        requireArgument(isFamily(family));
        if (isFlush) {
            log.settle();
        }
        return crashLeaving(0);
    }

    // ---- what the calls share

    private static void requireArgument(boolean isRight) {
        if (!isRight) {
            throw new IllegalArgumentException("an argument is out of its range");
        }
    }

    private static void requireState(boolean isRight) {
        if (!isRight) {
            throw new IllegalStateException("not in this state");
        }
    }

    private static void requireIndex(boolean isRight) {
        if (!isRight) {
            throw new IndexOutOfBoundsException("there is none with this number, or it has ended");
        }
    }

    private static boolean isFamily(int family) {
        return family >= 0 && family < FAMILIES;
    }

    private static boolean isKey(int key) {
        return key >= 0 && key < KEYS;
    }

    private static boolean isValue(int value) {
        return value >= -GREATEST_VALUE && value <= GREATEST_VALUE;
    }

    private static boolean isLevel(int level) {
        return level >= 0 && level < LEVELS;
    }

    private static boolean isTelling(int what) {
        return what >= 0 && what < TELLINGS;
    }

    private static int slotOf(int family, int key) {
        return family * KEYS + key;
    }

    private Family familyOf(int family) {
        return family == 0 ? familyZero : familyOne;
    }

    private int writeEntry(Family family, int key, int kind, int value) {
        requireState(family.pressureNow() < STALLED);
        store(family, key, kind, value);
        log.append(latest);
        return latest;
    }

    private void store(Family family, int key, int kind, int value) {
        latest++;
        family.tableRun().entries.insert(key, latest, kind, value);
        family.noteWritten(key, key, latest);
    }

    private int numberOfView(int snapshot) {
        if (snapshot == NONE) {
            return latest;
        }
        requireIndex(snapshots.isOpen(snapshot));
        return snapshots.numberOf(snapshot);
    }

    private int valueBy(Family family, int key, int by) {
        int cleared = family.latestClear(key, by);
        seen.empty();
        family.collect(key, cleared, by, seen);
        int size = seen.size();
        if (size == 0 || seen.foldedKind(0, size) == MARK) {
            return NO_VALUE;
        }
        return seen.foldedValue(0, size);
    }

    /** Lets the merger know all numbers that part stripes, but for one snapshot's (or for none). */
    private void pinViews(int exceptSnapshot) {
        Stripes stripes = merger.stripes;
        stripes.empty();
        snapshots.pinInto(stripes, exceptSnapshot);
        for (int i = 0; i < transactions.size(); i++) {
            Transaction transaction = transactions.get(i);
            if (!transaction.isOver) {
                stripes.pin(transaction.beganAt);
            }
        }
    }

    private int countIfWhole(int exceptSnapshot) {
        pinViews(exceptSnapshot);
        int count = 0;
        for (int family = 0; family < FAMILIES; family++) {
            Family counted = familyOf(family);
            merger.start();
            for (int depth = 0; depth < LEVELS; depth++) {
                merger.copyAll(counted.levelAt(depth));
            }
            merger.reduce(counted, DEEPEST);
            count += merger.countEntries();
        }
        return count;
    }

    private boolean isOpenTransaction(int transaction) {
        return transaction >= 0 && transaction < transactions.size() && !transactions.get(transaction).isOver;
    }

    private boolean hasConflict(Transaction transaction) {
        for (int family = 0; family < FAMILIES; family++) {
            for (int key = 0; key < KEYS; key++) {
                boolean isRead = transaction.hasRead(slotOf(family, key));
                if (isRead && familyOf(family).writtenAt(key) > transaction.beganAt) {
                    return true;
                }
            }
        }
        return false;
    }

    private void writeWaiting(Transaction transaction) {
        if (transaction.countWaiting() == 0) {
            return;
        }
        for (int family = 0; family < FAMILIES; family++) {
            for (int key = 0; key < KEYS; key++) {
                int slot = slotOf(family, key);
                if (transaction.hasWaiting(slot)) {
                    int value = transaction.waitingAt(slot);
                    boolean isMark = value == NO_VALUE;
                    store(familyOf(family), key, isMark ? MARK : PUT, isMark ? 0 : value);
                }
            }
        }
        log.append(latest);
    }

    /** Makes a run of a table that holds something, the log being synced; returns how many entries it has. */
    private int flushTable(Family family) {
        Run run = family.swapTable(merger.freshRun());
        run.fitSpan();
        family.levelAt(0).place(run);
        return run.entries.size();
    }

    private void compactLevel(Family family, int depth) {
        Level upper = family.levelAt(depth);
        int first = 0;
        int last = LAST_KEY;
        if (depth > 0 && upper.countRuns() > 0) {
            Run picked = upper.runs.get(upper.placeToCompact());
            first = picked.begins;
            last = picked.ends;
            upper.endedAt = last;
        }
        merger.start();
        pinViews(NONE);
        merger.takeOut(upper, first, last);
        merger.takeOut(family.levelAt(depth + 1), merger.merged.begins, merger.merged.ends);
        merger.reduce(family, depth + 1);
        merger.layOut(family.levelAt(depth + 1));
    }

    private Run runOfDraft() {
        Run run = merger.freshRun();
        for (int row = 0; row < draft.size(); row++) {
            run.entries.insert(draft.firstOf(row), latest, PUT, draft.valueOf(row));
        }
        run.fitSpan();
        return run;
    }

    private int crashLeaving(int records) {
        latest = log.cutTo(records);
        familyZero.forgetAbove(latest);
        familyOne.forgetAbove(latest);
        snapshots.endAll();
        for (int i = 0; i < transactions.size(); i++) {
            transactions.get(i).isOver = true;
        }
        return latest;
    }

    /** Entries or CLEARs, a row each; all in one array, so that merging them makes no objects. */
    private static final class Items {
        private static final int FIRST = 0, LAST = 1, NUMBER = 2, KIND = 3, VALUE = 4, WIDTH = 5;
        /** Each call brings one item, and of one CLEAR there are never more parts than keys. */
        private static final int MOST_ROWS = KEYS * CALLS;
        private int[] cells;
        private int rows;

        Items() {
            cells = new int[8 * WIDTH];
            rows = 0;
        }

        int size() {
            return rows;
        }

        void empty() {
            rows = 0;
        }

        void shrinkTo(int size) {
            rows = Math.max(0, Math.min(rows, size));
        }

        int firstOf(int row) {
            int at = row * WIDTH + FIRST;
            return at >= 0 && at < cells.length ? cells[at] : 0;
        }

        int lastOf(int row) {
            int at = row * WIDTH + LAST;
            return at >= 0 && at < cells.length ? cells[at] : 0;
        }

        int numberOf(int row) {
            int at = row * WIDTH + NUMBER;
            return at >= 0 && at < cells.length ? cells[at] : 0;
        }

        int kindOf(int row) {
            int at = row * WIDTH + KIND;
            return at >= 0 && at < cells.length ? cells[at] : 0;
        }

        int valueOf(int row) {
            int at = row * WIDTH + VALUE;
            return at >= 0 && at < cells.length ? cells[at] : 0;
        }

        boolean touches(int row, int first, int last) {
            return firstOf(row) <= last && lastOf(row) >= first;
        }

        void setKind(int row, int kind) {
            int at = row * WIDTH + KIND;
            if (at >= 0 && at < cells.length) {
                cells[at] = kind;
            }
        }

        /** Puts an item into a row, in place of what is there. */
        void fill(int row, int first, int last, int number, int kind, int value) {
            int at = row * WIDTH;
            if (at >= 0 && at + WIDTH <= cells.length) {
                cells[at + FIRST] = first;
                cells[at + LAST] = last;
                cells[at + NUMBER] = number;
                cells[at + KIND] = kind;
                cells[at + VALUE] = value;
            }
        }

        void append(int first, int last, int number, int kind, int value) {
            if (hasRoom()) {
                rows++;
                fill(rows - 1, first, last, number, kind, value);
            }
        }

        /** Inserts an entry: keys rise, and those of one key go by falling numbers. */
        void insert(int key, int number, int kind, int value) {
            if (!hasRoom()) {
                return;
            }
            int row = rows;
            while (row > 0 && (firstOf(row - 1) > key || firstOf(row - 1) == key && numberOf(row - 1) < number)) {
                row--;
            }
            int from = row * WIDTH;
            int moved = (rows - row) * WIDTH;
            if (moved > 0 && from + WIDTH + moved <= cells.length) {
                System.arraycopy(cells, from, cells, from + WIDTH, moved);
            }
            rows++;
            fill(row, key, key, number, kind, value);
        }

        void removeGone() {
            int kept = 0;
            for (int row = 0; row < rows; row++) {
                if (kindOf(row) != GONE) {
                    fill(kept, firstOf(row), lastOf(row), numberOf(row), kindOf(row), valueOf(row));
                    kept++;
                }
            }
            rows = kept;
        }

        void removeAbove(int number) {
            for (int row = 0; row < rows; row++) {
                if (numberOf(row) > number) {
                    setKind(row, GONE);
                }
            }
            removeGone();
        }

        boolean hasItemIn(int first, int last) {
            for (int row = 0; row < rows; row++) {
                if (touches(row, first, last)) {
                    return true;
                }
            }
            return false;
        }

        boolean hasOlderIn(int first, int last, int number) {
            for (int row = 0; row < rows; row++) {
                if (numberOf(row) < number && touches(row, first, last)) {
                    return true;
                }
            }
            return false;
        }

        /** Whether an item with a key has a number above one, and up to another one. */
        boolean hasBetween(int key, int above, int upTo) {
            for (int row = 0; row < rows; row++) {
                int number = numberOf(row);
                if (number > above && number <= upTo && touches(row, key, key)) {
                    return true;
                }
            }
            return false;
        }

        /** The greatest number, up to one, of an item with a key of a range; 0 without any. */
        int greatestNumberIn(int first, int last, int upTo) {
            int greatest = 0;
            for (int row = 0; row < rows; row++) {
                int number = numberOf(row);
                if (number > greatest && number <= upTo && touches(row, first, last)) {
                    greatest = number;
                }
            }
            return greatest;
        }

        /** Where the rows of the key end that begin at a row. */
        int endOfKey(int row) {
            int end = row;
            while (end < rows && firstOf(end) == firstOf(row)) {
                end++;
            }
            return end;
        }

        /** What the entries of one key, by falling numbers, are together. */
        int foldedKind(int from, int end) {
            int base = baseOf(from, end);
            if (base >= end) {
                return ADD;
            }
            return kindOf(base) == MARK && base == from ? MARK : PUT;
        }

        int foldedValue(int from, int end) {
            int base = baseOf(from, end);
            int sum = 0;
            for (int row = from; row < base; row++) {
                sum += valueOf(row);
            }
            return base < end ? sum + valueOf(base) : sum;
        }

        private int baseOf(int from, int end) {
            int base = from;
            while (base < end && kindOf(base) == ADD) {
                base++;
            }
            return base;
        }

        private boolean hasRoom() {
            if ((rows + 1) * WIDTH > cells.length && rows < MOST_ROWS) {
                cells = Arrays.copyOf(cells, cells.length * 2);
            }
            return (rows + 1) * WIDTH <= cells.length;
        }
    }

    /** A run, or a table: entries, CLEARs, and the span of keys, which a table has only when it is flushed. */
    private static final class Run {
        private final Items entries;
        private final Items clears;
        private int begins;
        private int ends;

        Run() {
            entries = new Items();
            clears = new Items();
            begins = KEYS;
            ends = NONE;
        }

        void empty() {
            entries.empty();
            clears.empty();
            begins = KEYS;
            ends = NONE;
        }

        int countItems() {
            return entries.size() + clears.size();
        }

        void widen(int first, int last) {
            begins = Math.min(begins, first);
            ends = Math.max(ends, last);
        }

        void fitSpan() {
            widenTo(entries);
            widenTo(clears);
        }

        private void widenTo(Items items) {
            for (int row = 0; row < items.size(); row++) {
                widen(items.firstOf(row), items.lastOf(row));
            }
        }

        boolean touches(int first, int last) {
            return begins <= last && ends >= first;
        }

        boolean hasItemIn(int first, int last) {
            return entries.hasItemIn(first, last) || clears.hasItemIn(first, last);
        }

        /** Whether the filters let a key through. */
        boolean mayHave(int key) {
            if (!touches(key, key)) {
                return false;
            }
            boolean isFirstRight = false;
            boolean isSecondRight = false;
            for (int row = 0; row < entries.size(); row++) {
                int other = entries.firstOf(row);
                isFirstRight = isFirstRight || other * 7 % 61 == key * 7 % 61;
                isSecondRight = isSecondRight || (other * 13 + 5) % 64 == (key * 13 + 5) % 64;
            }
            return isFirstRight && isSecondRight;
        }

        int greatestNumber() {
            int ofEntries = entries.greatestNumberIn(0, LAST_KEY, ENDLESS);
            int ofClears = clears.greatestNumberIn(0, LAST_KEY, ENDLESS);
            return Math.max(ofEntries, ofClears);
        }

        /** Adds to a list the entries of a key with numbers above one, and up to another one. */
        void collect(int key, int above, int upTo, Items into) {
            for (int row = 0; row < entries.size(); row++) {
                int number = entries.numberOf(row);
                if (entries.firstOf(row) == key && number > above && number <= upTo) {
                    into.insert(key, number, entries.kindOf(row), entries.valueOf(row));
                }
            }
        }

        void absorb(Run other) {
            widen(other.begins, other.ends);
            other.copyEntries(0, other.entries.size(), this);
            other.copyClears(this);
        }

        void copyEntries(int from, int end, Run into) {
            for (int row = from; row < end && row < entries.size(); row++) {
                into.entries.insert(entries.firstOf(row), entries.numberOf(row),
                        entries.kindOf(row), entries.valueOf(row));
            }
        }

        /** Copies, of each CLEAR, the part that lies in the other one's span. */
        void copyClears(Run into) {
            for (int row = 0; row < clears.size(); row++) {
                if (clears.touches(row, into.begins, into.ends)) {
                    int first = Math.max(clears.firstOf(row), into.begins);
                    int last = Math.min(clears.lastOf(row), into.ends);
                    into.clears.append(first, last, clears.numberOf(row), CLEAR, 0);
                }
            }
        }
    }

    /** A level of a family. */
    private static final class Level {
        private final int depth;
        private final ArrayList<Run> runs;
        /** Where the run ended that compact() took of this level last. */
        private int endedAt;

        Level(int depth) {
            this.depth = depth;
            runs = new ArrayList<Run>();
            endedAt = NONE;
        }

        int countRuns() {
            return runs.size();
        }

        int countEntries() {
            int count = 0;
            for (int i = 0; i < runs.size(); i++) {
                count += runs.get(i).entries.size();
            }
            return count;
        }

        int countClears() {
            int count = 0;
            for (int i = 0; i < runs.size(); i++) {
                count += runs.get(i).clears.size();
            }
            return count;
        }

        int score() {
            switch (depth) {
                case 0:
                    return 25 * countRuns();
                case 1:
                    return 100 * countEntries() / 12;
                case 2:
                    return 100 * countEntries() / 48;
                default:
                    return 0;
            }
        }

        /** Puts a run in its place: the latest first in the level 0, elsewhere by the spans. */
        void place(Run run) {
            int at = 0;
            while (depth > 0 && at < runs.size() && runs.get(at).begins < run.begins) {
                at++;
            }
            runs.add(at, run);
        }

        int placeToCompact() {
            for (int i = 0; i < runs.size(); i++) {
                if (runs.get(i).begins > endedAt) {
                    return i;
                }
            }
            return 0;
        }

        boolean touches(int first, int last) {
            for (int i = 0; i < runs.size(); i++) {
                if (runs.get(i).touches(first, last)) {
                    return true;
                }
            }
            return false;
        }

        int countRunsThatMayHave(int key) {
            int count = 0;
            for (int i = 0; i < runs.size(); i++) {
                if (runs.get(i).mayHave(key)) {
                    count++;
                }
            }
            return count;
        }

        int latestClear(int key, int by) {
            int greatest = 0;
            for (int i = 0; i < runs.size(); i++) {
                Run run = runs.get(i);
                if (run.touches(key, key)) {
                    greatest = Math.max(greatest, run.clears.greatestNumberIn(key, key, by));
                }
            }
            return greatest;
        }

        void collect(int key, int above, int upTo, Items into) {
            for (int i = 0; i < runs.size(); i++) {
                Run run = runs.get(i);
                if (run.touches(key, key)) {
                    run.collect(key, above, upTo, into);
                }
            }
        }
    }

    /** A family: its table, its levels, and when each key was written last. */
    private static final class Family {
        private final Level zero;
        private final Level one;
        private final Level two;
        private final Level three;
        /** By keys; kept apart from the entries, since a conflict stays one whatever has become of the write. */
        private final int[] written;
        private Run table;

        Family() {
            zero = new Level(0);
            one = new Level(1);
            two = new Level(2);
            three = new Level(3);
            written = new int[KEYS];
            table = new Run();
        }

        Level levelAt(int depth) {
            switch (depth) {
                case 0:
                    return zero;
                case 1:
                    return one;
                case 2:
                    return two;
                default:
                    return three;
            }
        }

        Run tableRun() {
            return table;
        }

        int tableSize() {
            return table.countItems();
        }

        Run swapTable(Run fresh) {
            Run old = table;
            table = fresh;
            return old;
        }

        int pressureNow() {
            int runs = zero.countRuns();
            int items = tableSize();
            if (runs >= 6 || items >= 40) {
                return STALLED;
            }
            return runs >= 4 || items >= 24 ? 1 : 0;
        }

        void noteWritten(int first, int last, int number) {
            for (int key = Math.max(0, first); key <= last && key < written.length; key++) {
                written[key] = number;
            }
        }

        void noteRowsWritten(Items rows, int number) {
            for (int row = 0; row < rows.size(); row++) {
                noteWritten(rows.firstOf(row), rows.lastOf(row), number);
            }
        }

        int writtenAt(int key) {
            return key >= 0 && key < written.length ? written[key] : 0;
        }

        /** Forgets what a crash lost; whoever could meet a conflict has ended by it. */
        void forgetAbove(int number) {
            table.entries.removeAbove(number);
            table.clears.removeAbove(number);
            Arrays.fill(written, 0);
        }

        int countRunEntries() {
            int count = 0;
            for (int depth = 0; depth < LEVELS; depth++) {
                count += levelAt(depth).countEntries();
            }
            return count;
        }

        int countRunsThatMayHave(int key) {
            int count = 0;
            for (int depth = 0; depth < LEVELS; depth++) {
                count += levelAt(depth).countRunsThatMayHave(key);
            }
            return count;
        }

        /** The number of the latest CLEAR of a range with a key, up to a number; 0 without any. */
        int latestClear(int key, int by) {
            int greatest = table.clears.greatestNumberIn(key, key, by);
            for (int depth = 0; depth < LEVELS; depth++) {
                greatest = Math.max(greatest, levelAt(depth).latestClear(key, by));
            }
            return greatest;
        }

        void collect(int key, int above, int upTo, Items into) {
            table.collect(key, above, upTo, into);
            for (int depth = 0; depth < LEVELS; depth++) {
                levelAt(depth).collect(key, above, upTo, into);
            }
        }

        /** The level with the greatest score that is full, or NONE. */
        int fullestLevel() {
            int fullest = NONE;
            int greatest = FULL_SCORE - 1;
            for (int depth = 0; depth < DEEPEST; depth++) {
                int score = levelAt(depth).score();
                if (score > greatest) {
                    greatest = score;
                    fullest = depth;
                }
            }
            return fullest;
        }

        /** The lowest level into which a run goes that is taken in. */
        int deepestFree(int first, int last) {
            int free = 0;
            for (int depth = 0; depth < LEVELS && !levelAt(depth).touches(first, last); depth++) {
                free = depth;
            }
            return free;
        }

        boolean hasRunBelow(int depth, int first, int last) {
            for (int below = depth + 1; below < LEVELS; below++) {
                if (levelAt(below).touches(first, last)) {
                    return true;
                }
            }
            return false;
        }
    }

    /** The numbers of snapshots and open transactions, which part the numbers of writes into stripes. */
    private static final class Stripes {
        private final int[] pinned;
        private int count;

        Stripes() {
            pinned = new int[MOST_SNAPSHOTS + MOST_TRANSACTIONS];
            count = 0;
        }

        void empty() {
            count = 0;
        }

        void pin(int number) {
            if (count >= 0 && count < pinned.length) {
                pinned[count] = number;
                count++;
            }
        }

        /** The last number that is in one stripe with a number. */
        int endOf(int number) {
            int end = ENDLESS;
            for (int i = 0; i < count && i < pinned.length; i++) {
                if (pinned[i] >= number && pinned[i] < end) {
                    end = pinned[i];
                }
            }
            return end;
        }
    }

    /** Merges runs; it keeps runs that are over, so that their arrays are used again. */
    private static final class Merger {
        private final Stripes stripes;
        private final Run merged;
        private final ArrayList<Run> spare;

        Merger() {
            stripes = new Stripes();
            merged = new Run();
            spare = new ArrayList<Run>();
        }

        Run freshRun() {
            if (spare.isEmpty()) {
                return new Run();
            }
            Run run = spare.remove(spare.size() - 1);
            run.empty();
            return run;
        }

        void start() {
            merged.empty();
        }

        /** Takes all runs out of a level that have a key in common with a range. */
        void takeOut(Level level, int first, int last) {
            for (int i = level.runs.size() - 1; i >= 0; i--) {
                Run run = level.runs.get(i);
                if (run.touches(first, last)) {
                    merged.absorb(run);
                    level.runs.remove(i);
                    spare.add(run);
                }
            }
        }

        /** Copies all runs of a level, which stay in it. */
        void copyAll(Level level) {
            for (int i = 0; i < level.runs.size(); i++) {
                merged.absorb(level.runs.get(i));
            }
        }

        int countEntries() {
            return merged.entries.size();
        }

        /** Drops and folds, of what is merged, what is of no use in a level of a family. */
        void reduce(Family family, int depth) {
            dropCleared();
            foldStripes();
            settleLeast(family, depth);
            dropClears(family, depth);
        }

        private void dropCleared() {
            Items entries = merged.entries;
            for (int row = 0; row < entries.size(); row++) {
                int number = entries.numberOf(row);
                if (merged.clears.hasBetween(entries.firstOf(row), number, stripes.endOf(number))) {
                    entries.setKind(row, GONE);
                }
            }
            entries.removeGone();
        }

        private void foldStripes() {
            Items entries = merged.entries;
            int kept = 0;
            int from = 0;
            for (int row = 1; row <= entries.size(); row++) {
                if (row == entries.size() || !isOneStripe(from, row)) {
                    int key = entries.firstOf(from);
                    int kind = entries.foldedKind(from, row);
                    int value = entries.foldedValue(from, row);
                    entries.fill(kept, key, key, entries.numberOf(from), kind, value);
                    kept++;
                    from = row;
                }
            }
            entries.shrinkTo(kept);
        }

        private boolean isOneStripe(int row, int other) {
            Items entries = merged.entries;
            return entries.firstOf(row) == entries.firstOf(other)
                    && stripes.endOf(entries.numberOf(row)) == stripes.endOf(entries.numberOf(other));
        }

        /** Nothing lies below the least entry of some keys: there is nothing to add to, and nothing to erase. */
        private void settleLeast(Family family, int depth) {
            Items entries = merged.entries;
            boolean isLeast = false;
            for (int row = entries.size() - 1; row >= 0; row--) {
                int key = entries.firstOf(row);
                if (row == entries.size() - 1 || entries.firstOf(row + 1) != key) {
                    isLeast = !family.hasRunBelow(depth, key, key);
                }
                if (isLeast) {
                    isLeast = entries.kindOf(row) == MARK;
                    entries.setKind(row, isLeast ? GONE : PUT);
                }
            }
            entries.removeGone();
        }

        private void dropClears(Family family, int depth) {
            Items clears = merged.clears;
            for (int row = 0; row < clears.size(); row++) {
                int first = clears.firstOf(row);
                int last = clears.lastOf(row);
                boolean isNeeded = family.hasRunBelow(depth, first, last)
                        || merged.entries.hasOlderIn(first, last, clears.numberOf(row));
                if (!isNeeded) {
                    clears.setKind(row, GONE);
                }
            }
            clears.removeGone();
        }

        /** Cuts what is left into runs of a level. */
        void layOut(Level level) {
            if (merged.countItems() == 0) {
                return;
            }
            Items entries = merged.entries;
            int begins = merged.begins;
            int from = 0;
            for (int row = 1; row < entries.size(); row++) {
                int key = entries.firstOf(row);
                boolean isNewKey = entries.firstOf(row - 1) != key;
                if (isNewKey && entries.endOfKey(row) - from > ENTRIES_OF_A_RUN) {
                    layRun(level, begins, key - 1, from, row);
                    begins = key;
                    from = row;
                }
            }
            layRun(level, begins, merged.ends, from, entries.size());
        }

        private void layRun(Level level, int begins, int ends, int from, int end) {
            Run run = freshRun();
            run.widen(begins, ends);
            merged.copyEntries(from, end, run);
            merged.copyClears(run);
            level.place(run);
        }
    }

    /** The records of the log that are not sure, and how far it is sure. */
    private static final class Log {
        /** Of each record the number of its last write. */
        private final int[] ends;
        private int count;
        private int sureUpTo;

        Log() {
            ends = new int[CALLS];
            count = 0;
            sureUpTo = 0;
        }

        void append(int lastNumber) {
            if (count >= 0 && count < ends.length) {
                ends[count] = lastNumber;
                count++;
            }
        }

        int countUnsure() {
            return count;
        }

        void settle() {
            cutTo(count);
        }

        void settleAt(int number) {
            sureUpTo = number;
        }

        /** Leaves only the first records, which are sure then; returns the number of the last write left. */
        int cutTo(int records) {
            int last = Math.min(records, count) - 1;
            if (last >= 0 && last < ends.length) {
                sureUpTo = ends[last];
            }
            count = 0;
            return sureUpTo;
        }
    }

    /** All snapshots there were. */
    private static final class Snapshots {
        private final int[] numbers;
        private final boolean[] areOpen;
        private int count;

        Snapshots() {
            numbers = new int[MOST_SNAPSHOTS];
            areOpen = new boolean[MOST_SNAPSHOTS];
            count = 0;
        }

        boolean canOpen() {
            return count < MOST_SNAPSHOTS;
        }

        int open(int number) {
            if (count < 0 || count >= numbers.length || count >= areOpen.length) {
                return NONE;
            }
            numbers[count] = number;
            areOpen[count] = true;
            count++;
            return count - 1;
        }

        boolean isOpen(int snapshot) {
            return snapshot >= 0 && snapshot < areOpen.length && areOpen[snapshot];
        }

        int numberOf(int snapshot) {
            return snapshot >= 0 && snapshot < numbers.length ? numbers[snapshot] : 0;
        }

        void end(int snapshot) {
            if (snapshot >= 0 && snapshot < areOpen.length) {
                areOpen[snapshot] = false;
            }
        }

        void endAll() {
            for (int i = 0; i < areOpen.length; i++) {
                areOpen[i] = false;
            }
        }

        void pinInto(Stripes stripes, int except) {
            for (int i = 0; i < count; i++) {
                if (i != except && isOpen(i)) {
                    stripes.pin(numberOf(i));
                }
            }
        }
    }

    /** A transaction: a slot for each key of each family, for what waits there, and whether it was read. */
    private static final class Transaction {
        private final int beganAt;
        private final boolean[] areWaiting;
        private final int[] values;
        private final boolean[] areRead;
        private int waiting;
        private boolean isOver;

        Transaction(int number) {
            beganAt = number;
            areWaiting = new boolean[SLOTS];
            values = new int[SLOTS];
            areRead = new boolean[SLOTS];
            waiting = 0;
            isOver = false;
        }

        int countWaiting() {
            return waiting;
        }

        boolean hasWaiting(int slot) {
            return slot >= 0 && slot < areWaiting.length && areWaiting[slot];
        }

        boolean hasWaitingFor(int family) {
            for (int key = 0; key < KEYS; key++) {
                if (hasWaiting(slotOf(family, key))) {
                    return true;
                }
            }
            return false;
        }

        /** What waits in a slot: the value, or NO_VALUE for a MARK. */
        int waitingAt(int slot) {
            return slot >= 0 && slot < values.length ? values[slot] : NO_VALUE;
        }

        int letWait(int slot, int value) {
            if (slot >= 0 && slot < areWaiting.length && slot < values.length) {
                if (!areWaiting[slot]) {
                    waiting++;
                }
                areWaiting[slot] = true;
                values[slot] = value;
            }
            return waiting;
        }

        void noteRead(int slot) {
            if (slot >= 0 && slot < areRead.length) {
                areRead[slot] = true;
            }
        }

        boolean hasRead(int slot) {
            return slot >= 0 && slot < areRead.length && areRead[slot];
        }
    }
}
