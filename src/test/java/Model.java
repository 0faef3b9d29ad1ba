import java.util.ArrayList;
import java.util.Comparator;
import java.util.List;
import java.util.TreeMap;

/**
 * The document again, written as slowly and as near to its words as it goes, for ModelTests to compare with.
 * It checks no arguments but those that depend on its state; it answers THROWS_... where a call throws.
 */
final class Model {
    static final int ARGUMENT = -2000000001, STATE = -2000000002, INDEX = -2000000003;
    static final int NO_VALUE = -1000000000;

    enum Kind { PUT, MARK, ADD, CLEAR }

    record Item(Kind kind, int from, int to, int number, int value) {
        boolean has(int key) {
            return from <= key && key <= to;
        }

        boolean isEntry() {
            return kind != Kind.CLEAR;
        }
    }

    record Run(int begins, int ends, List<Item> items) {
        boolean meets(int from, int to) {
            return begins <= to && from <= ends;
        }

        int entries() {
            return (int) items.stream().filter(Item::isEntry).count();
        }
    }

    static final class View {
        int number;
        boolean isOver;
        final TreeMap<Integer, Integer> waiting = new TreeMap<>();
        final List<Integer> found = new ArrayList<>();
    }

    final List<List<Item>> tables = List.of(new ArrayList<>(), new ArrayList<>());
    final List<List<List<Run>>> levels = List.of(fourLevels(), fourLevels());
    final int[][] endedAt = {{-1, -1, -1, -1}, {-1, -1, -1, -1}};
    final List<List<Item>> everWritten = List.of(new ArrayList<>(), new ArrayList<>());
    final List<Integer> unsure = new ArrayList<>();
    final List<View> snapshots = new ArrayList<>();
    final List<View> transactions = new ArrayList<>();
    final TreeMap<Integer, Integer> draft = new TreeMap<>();
    int number = 0;
    int sure = 0;
    int looked = 0;

    private static List<List<Run>> fourLevels() {
        return List.of(new ArrayList<>(), new ArrayList<>(), new ArrayList<>(), new ArrayList<>());
    }

    int write(int f, Kind kind, int from, int to, int value) {
        if (pressure(f) == 2) {
            return STATE;
        }
        store(f, kind, from, to, value);
        unsure.add(number);
        return number;
    }

    private void store(int f, Kind kind, int from, int to, int value) {
        number++;
        Item item = new Item(kind, from, to, number, value);
        tables.get(f).add(item);
        everWritten.get(f).add(item);
    }

    List<Run> runs(int f) {
        List<Run> all = new ArrayList<>();
        levels.get(f).forEach(all::addAll);
        return all;
    }

    private static boolean isOpen(List<View> views, int i) {
        return i >= 0 && i < views.size() && !views.get(i).isOver;
    }

    int valueBy(int f, int key, int n) {
        List<Item> all = new ArrayList<>(tables.get(f));
        runs(f).forEach(r -> all.addAll(r.items()));
        all.removeIf(i -> i.number() > n || !i.has(key));
        List<Item> clears = all.stream().filter(i -> !i.isEntry()).toList();
        List<Item> entries = new ArrayList<>(all.stream().filter(Item::isEntry).toList());
        entries.removeIf(e -> clears.stream().anyMatch(c -> e.number() < c.number()));
        entries.sort(Comparator.comparingInt(e -> -e.number()));
        int sum = 0;
        boolean wasAdd = false;
        for (Item e : entries) {
            if (e.kind() == Kind.PUT) {
                return sum + e.value();
            }
            if (e.kind() == Kind.MARK) {
                break;
            }
            sum += e.value();
            wasAdd = true;
        }
        return wasAdd ? sum : NO_VALUE;
    }

    int get(int f, int key, int s) {
        if (s != -1 && !isOpen(snapshots, s)) {
            return INDEX;
        }
        looked = (int) runs(f).stream().filter(r -> r.meets(key, key)
                && r.items().stream().anyMatch(i -> i.isEntry() && i.from() * 7 % 61 == key * 7 % 61)
                && r.items().stream().anyMatch(i -> i.isEntry() && (i.from() * 13 + 5) % 64 == (key * 13 + 5) % 64))
                .count();
        return valueBy(f, key, s == -1 ? number : snapshots.get(s).number);
    }

    int next(int f, int key, boolean isForward, int s) {
        if (s != -1 && !isOpen(snapshots, s)) {
            return INDEX;
        }
        int n = s == -1 ? number : snapshots.get(s).number;
        int best = -1;
        for (int k = 0; k < 64; k++) {
            if (valueBy(f, k, n) != NO_VALUE) {
                if (isForward && k >= key && best == -1 || !isForward && k <= key) {
                    best = k;
                }
            }
        }
        return best;
    }

    int open(List<View> views) {
        if (views.size() == 30) {
            return STATE;
        }
        View view = new View();
        view.number = number;
        views.add(view);
        return views.size() - 1;
    }

    int release(int s) {
        if (!isOpen(snapshots, s)) {
            return INDEX;
        }
        snapshots.get(s).isOver = true;
        return 0;
    }

    int pins(int s) {
        if (!isOpen(snapshots, s)) {
            return INDEX;
        }
        int with = 0;
        int without = 0;
        for (int f = 0; f < 2; f++) {
            with += countEntries(merge(f, runs(f), 3));
            snapshots.get(s).isOver = true;
            without += countEntries(merge(f, runs(f), 3));
            snapshots.get(s).isOver = false;
        }
        return with - without;
    }

    static int countEntries(List<Run> runs) {
        return runs.stream().mapToInt(Run::entries).sum();
    }

    int read(int t, int f, int key) {
        if (!isOpen(transactions, t)) {
            return INDEX;
        }
        View view = transactions.get(t);
        Integer waits = view.waiting.get(f * 64 + key);
        if (waits != null) {
            return waits;
        }
        view.found.add(f * 64 + key);
        return valueBy(f, key, view.number);
    }

    int letWait(int t, int f, int key, int value) {
        if (!isOpen(transactions, t)) {
            return INDEX;
        }
        transactions.get(t).waiting.put(f * 64 + key, value);
        return transactions.get(t).waiting.size();
    }

    int commit(int t) {
        if (!isOpen(transactions, t)) {
            return INDEX;
        }
        View view = transactions.get(t);
        for (int slot : view.waiting.keySet()) {
            if (pressure(slot / 64) == 2) {
                return STATE;
            }
        }
        view.isOver = true;
        for (int slot : view.found) {
            if (everWritten.get(slot / 64).stream().anyMatch(i -> i.has(slot % 64) && i.number() > view.number)) {
                return 1;
            }
        }
        view.waiting.forEach((slot, value) -> store(slot / 64, value == NO_VALUE ? Kind.MARK : Kind.PUT,
                slot % 64, slot % 64, value == NO_VALUE ? 0 : value));
        if (!view.waiting.isEmpty()) {
            unsure.add(number);
        }
        return 0;
    }

    int flush(int f) {
        sync();
        List<Item> items = new ArrayList<>(tables.get(f));
        if (items.isEmpty()) {
            return -1;
        }
        tables.get(f).clear();
        int begins = items.stream().mapToInt(Item::from).min().getAsInt();
        int ends = items.stream().mapToInt(Item::to).max().getAsInt();
        levels.get(f).get(0).add(0, new Run(begins, ends, items));
        return levels.get(f).get(0).get(0).entries();
    }

    int score(int f, int level) {
        int entries = countEntries(levels.get(f).get(level));
        return switch (level) {
            case 0 -> 25 * levels.get(f).get(0).size();
            case 1 -> 100 * entries / 12;
            case 2 -> 100 * entries / 48;
            default -> 0;
        };
    }

    int compact(int f) {
        int best = 0;
        for (int level = 1; level < 4; level++) {
            if (score(f, level) > score(f, best)) {
                best = level;
            }
        }
        if (score(f, best) < 100) {
            return -1;
        }
        List<Run> here = levels.get(f).get(best);
        List<Run> taken = new ArrayList<>(here);
        if (best > 0) {
            int ended = endedAt[f][best];
            Run picked = here.stream().filter(r -> r.begins() > ended).findFirst().orElse(here.get(0));
            taken = new ArrayList<>(List.of(picked));
            endedAt[f][best] = picked.ends();
        }
        int least = taken.stream().mapToInt(Run::begins).min().getAsInt();
        int greatest = taken.stream().mapToInt(Run::ends).max().getAsInt();
        for (Run run : levels.get(f).get(best + 1)) {
            if (run.meets(least, greatest)) {
                taken.add(run);
            }
        }
        replace(f, taken, best + 1);
        return best;
    }

    int whole(int f) {
        int before = countEntries(runs(f));
        replace(f, runs(f), 3);
        return before - countEntries(runs(f));
    }

    private void replace(int f, List<Run> taken, int level) {
        List<Run> made = merge(f, taken, level);
        for (List<Run> each : levels.get(f)) {
            each.removeIf(r -> taken.stream().anyMatch(t -> t == r));
        }
        levels.get(f).get(level).addAll(made);
        levels.get(f).get(level).sort(Comparator.comparingInt(Run::begins));
    }

    private boolean isOneStripe(int a, int b) {
        int lesser = Math.min(a, b);
        int greater = Math.max(a, b);
        List<View> views = new ArrayList<>(snapshots);
        views.addAll(transactions);
        return views.stream().noneMatch(v -> !v.isOver && v.number >= lesser && v.number < greater);
    }

    private boolean isBelow(int f, int level, int from, int to) {
        for (int below = level + 1; below < 4; below++) {
            if (levels.get(f).get(below).stream().anyMatch(r -> r.meets(from, to))) {
                return true;
            }
        }
        return false;
    }

    private List<Run> merge(int f, List<Run> taken, int level) {
        if (taken.isEmpty()) {
            return new ArrayList<>();
        }
        List<Item> clears = new ArrayList<>();
        List<Item> entries = new ArrayList<>();
        for (Run run : taken) {
            run.items().forEach(i -> (i.isEntry() ? entries : clears).add(i));
        }
        entries.removeIf(e -> clears.stream().anyMatch(
                c -> c.has(e.from()) && e.number() < c.number() && isOneStripe(e.number(), c.number())));
        List<List<Item>> byKeys = new ArrayList<>();
        for (int key = 0; key < 64; key++) {
            byKeys.add(settled(f, level, key, folded(key, entries)));
        }
        clears.removeIf(c -> !isBelow(f, level, c.from(), c.to()) && byKeys.stream().noneMatch(
                left -> left.stream().anyMatch(e -> c.has(e.from()) && e.number() < c.number())));
        int least = taken.stream().mapToInt(Run::begins).min().getAsInt();
        int greatest = taken.stream().mapToInt(Run::ends).max().getAsInt();
        return cutUp(byKeys, clears, least, greatest);
    }

    /** The entries of a key, one for each stripe, the greatest number first. */
    private List<Item> folded(int key, List<Item> entries) {
        List<Item> left = new ArrayList<>();
        List<Item> rest = new ArrayList<>(entries.stream().filter(e -> e.from() == key).toList());
        while (!rest.isEmpty()) {
            int greatest = rest.stream().mapToInt(Item::number).max().getAsInt();
            List<Item> stripe = new ArrayList<>(rest.stream().filter(e -> isOneStripe(e.number(), greatest)).toList());
            rest.removeAll(stripe);
            int base = stripe.stream().filter(e -> e.kind() != Kind.ADD).mapToInt(Item::number).max().orElse(0);
            int sum = stripe.stream().filter(e -> e.number() > base).mapToInt(Item::value).sum();
            boolean wasAdd = greatest > base;
            Item latest = stripe.stream().filter(e -> e.number() == base).findFirst().orElse(null);
            if (latest == null) {
                left.add(new Item(Kind.ADD, key, key, greatest, sum));
            } else if (latest.kind() == Kind.PUT) {
                left.add(new Item(Kind.PUT, key, key, greatest, sum + latest.value()));
            } else {
                left.add(wasAdd ? new Item(Kind.PUT, key, key, greatest, sum) : latest);
            }
        }
        return left;
    }

    private List<Item> settled(int f, int level, int key, List<Item> left) {
        if (isBelow(f, level, key, key)) {
            return left;
        }
        while (!left.isEmpty() && left.get(left.size() - 1).kind() == Kind.MARK) {
            left.remove(left.size() - 1);
        }
        if (!left.isEmpty()) {
            Item least = left.remove(left.size() - 1);
            left.add(new Item(Kind.PUT, key, key, least.number(), least.value()));
        }
        return left;
    }

    private static List<Run> cutUp(List<List<Item>> byKeys, List<Item> clears, int least, int greatest) {
        List<List<Item>> groups = new ArrayList<>();
        for (List<Item> left : byKeys) {
            if (left.isEmpty()) {
                continue;
            }
            List<Item> last = groups.isEmpty() ? null : groups.get(groups.size() - 1);
            if (last == null || last.size() + left.size() > 8) {
                groups.add(new ArrayList<>(left));
            } else {
                last.addAll(left);
            }
        }
        if (groups.isEmpty() && !clears.isEmpty()) {
            groups.add(new ArrayList<>());
        }
        List<Run> made = new ArrayList<>();
        for (int i = 0; i < groups.size(); i++) {
            int begins = i == 0 ? least : groups.get(i).get(0).from();
            int ends = i == groups.size() - 1 ? greatest : groups.get(i + 1).get(0).from() - 1;
            List<Item> items = groups.get(i);
            for (Item c : clears) {
                if (c.from() <= ends && c.to() >= begins) {
                    items.add(new Item(Kind.CLEAR, Math.max(begins, c.from()), Math.min(ends, c.to()), c.number(), 0));
                }
            }
            made.add(new Run(begins, ends, items));
        }
        return made;
    }

    int row(int key, int value) {
        if (!draft.isEmpty() && draft.lastKey() >= key) {
            return ARGUMENT;
        }
        draft.put(key, value);
        return draft.size();
    }

    int take(int f) {
        if (draft.isEmpty()) {
            return STATE;
        }
        int first = draft.firstKey();
        int last = draft.lastKey();
        if (tables.get(f).stream().anyMatch(i -> i.from() <= last && i.to() >= first)) {
            flush(f);
        }
        sync();
        number++;
        sure = number;
        List<Item> items = new ArrayList<>();
        draft.forEach((key, value) -> items.add(new Item(Kind.PUT, key, key, number, value)));
        everWritten.get(f).addAll(items);
        draft.clear();
        int into = 0;
        for (int level = 3; level >= 0 && into == 0; level--) {
            boolean isFree = true;
            for (int above = 0; above <= level; above++) {
                isFree &= levels.get(f).get(above).stream().noneMatch(r -> r.meets(first, last));
            }
            into = isFree ? level : 0;
        }
        levels.get(f).get(into).add(0, new Run(first, last, items));
        if (into > 0) {
            levels.get(f).get(into).sort(Comparator.comparingInt(Run::begins));
        }
        return into;
    }

    int level(int f, int level, int what) {
        List<Run> runs = levels.get(f).get(level);
        int items = runs.stream().mapToInt(r -> r.items().size()).sum();
        return switch (what) {
            case 0 -> runs.size();
            case 1 -> countEntries(runs);
            case 2 -> items - countEntries(runs);
            default -> score(f, level);
        };
    }

    int run(int f, int level, int place, int what) {
        List<Run> runs = levels.get(f).get(level);
        if (place < 0 || place >= runs.size()) {
            return INDEX;
        }
        Run run = runs.get(place);
        return switch (what) {
            case 0 -> run.begins();
            case 1 -> run.ends();
            case 2 -> run.entries();
            default -> run.items().stream().mapToInt(Item::number).max().getAsInt();
        };
    }

    int table(int f) {
        return tables.get(f).size();
    }

    int pressure(int f) {
        int runs = levels.get(f).get(0).size();
        return runs >= 6 || table(f) >= 40 ? 2 : runs >= 4 || table(f) >= 24 ? 1 : 0;
    }

    int sync() {
        int were = unsure.size();
        if (were > 0) {
            sure = number;
        }
        unsure.clear();
        return were;
    }

    int crash(int leave) {
        for (int i = 0; i < leave && i < unsure.size(); i++) {
            sure = unsure.get(i);
        }
        unsure.clear();
        number = sure;
        for (int f = 0; f < 2; f++) {
            tables.get(f).removeIf(i -> i.number() > number);
            everWritten.get(f).removeIf(i -> i.number() > number);
        }
        snapshots.forEach(v -> v.isOver = true);
        transactions.forEach(v -> v.isOver = true);
        return number;
    }

    int cut(boolean isFlush) {
        if (isFlush) {
            sync();
        }
        return crash(0);
    }
}
