import java.util.ArrayList;
import java.util.Arrays;
import java.util.List;
import java.util.Random;

/**
 * Random runs of 512 calls, compared with the model of the document, and with what a plain map was at each
 * number. The seeds are written down, so that each run is the same each time. As no object is used for more calls,
 * the whole state is asked for on other objects, on which the first calls of the run are made again.
 */
public final class ModelTests {
    private static final int CALLS = 512;
    private static final String[] OPS = {"put", "mark", "add", "clear", "get", "next", "snapshot", "release", "pins",
        "begin", "read", "write", "commit", "flush", "compact", "whole", "row", "take", "sync", "crash", "cut"};
    /** How often each call is made, in each kind of run. */
    private static final int[][] WEIGHTS = {
        {30, 8, 16, 6, 8, 4, 3, 2, 2, 2, 6, 6, 2, 8, 8, 1, 6, 2, 2, 1, 1},
        {60, 10, 30, 8, 4, 2, 2, 1, 1, 1, 2, 2, 1, 14, 12, 1, 2, 1, 1, 0, 0},
        {20, 10, 20, 14, 8, 4, 8, 3, 6, 6, 6, 6, 3, 12, 10, 3, 4, 2, 1, 0, 0},
        {10, 4, 6, 4, 8, 2, 2, 1, 1, 8, 20, 20, 8, 6, 6, 1, 4, 1, 1, 1, 1},
        {10, 4, 6, 3, 4, 2, 1, 1, 1, 1, 2, 2, 1, 4, 8, 1, 30, 8, 1, 1, 1},
        {40, 6, 10, 4, 2, 1, 1, 1, 0, 1, 2, 2, 1, 6, 5, 0, 3, 1, 4, 5, 4},
        {34, 10, 40, 30, 4, 2, 6, 1, 2, 2, 2, 2, 1, 16, 20, 1, 1, 1, 1, 0, 0},
    };

    /** After so many calls the whole state is asked for. */
    private static final int[] LOOKS = {48, 160, 272, 384, 448};

    private interface Call {
        int on(Stratalog x);
    }

    /** A call, and what the model answered. */
    private record Step(String what, Call call, int want) {
    }

    private final Random random;
    private final int seed;
    private final int[] weights;
    private final int keys;
    private final Model model = new Model();
    private final List<Step> steps = new ArrayList<>();
    /** What is asked of the state; what stands together is asked of one object. */
    private final List<List<Step>> questions = new ArrayList<>();
    /** By numbers: what a plain map was then; slots are keys of family 0, then of family 1. */
    private final List<int[]> maps = new ArrayList<>();

    private ModelTests(int seed) {
        this.seed = seed;
        random = new Random(seed);
        weights = WEIGHTS[seed % WEIGHTS.length];
        keys = new int[] {64, 12, 24, 5, 40}[random.nextInt(5)];
        int[] empty = new int[128];
        Arrays.fill(empty, Model.NO_VALUE);
        maps.add(empty);
    }

    public static void main(String[] args) {
        int runs = args.length > 0 ? Integer.parseInt(args[0]) : 2100;
        for (int seed = 0; seed < runs && Check.failures() == 0; seed++) {
            new ModelTests(seed).go();
        }
        System.out.println("ModelTests: " + runs + " runs");
        Check.end();
    }

    private void go() {
        while (steps.size() < CALLS && Check.failures() == 0) {
            step();
            int made = steps.size();
            if (Arrays.stream(LOOKS).anyMatch(at -> at == made)) {
                lookAtAll();
            }
        }
        compare(new Stratalog(), steps);
    }

    private void compare(Stratalog x, List<Step> asked) {
        for (int i = 0; i < asked.size() && Check.failures() == 0; i++) {
            Step step = asked.get(i);
            Check.due("seed " + seed + ", call " + i + ": " + step.what(), answerOf(step.call(), x), step.want());
        }
    }

    private static int answerOf(Call call, Stratalog x) {
        try {
            return call.on(x);
        } catch (IllegalArgumentException e) {
            return Model.ARGUMENT;
        } catch (IllegalStateException e) {
            return Model.STATE;
        } catch (IndexOutOfBoundsException e) {
            boolean isOwn = e.getClass() == IndexOutOfBoundsException.class
                    && e.getStackTrace()[0].getClassName().startsWith("Stratalog");
            return isOwn ? Model.INDEX : Integer.MIN_VALUE;
        }
    }

    private void same(String what, Call call, int want) {
        steps.add(new Step(what, call, want));
    }

    private int key() {
        return random.nextInt(keys);
    }

    private int value() {
        return random.nextInt(19999) - 9999;
    }

    private int some(int ever) {
        if (ever == 0 || random.nextInt(12) == 0) {
            return random.nextInt(32) - 1;
        }
        return ever - 1 - random.nextInt(Math.min(ever, 6));
    }

    private String pick() {
        int sum = 0;
        for (int w : weights) {
            sum += w;
        }
        int at = random.nextInt(sum);
        int op = 0;
        while (at >= weights[op]) {
            at -= weights[op];
            op++;
        }
        return OPS[op];
    }

    private void step() {
        int f = random.nextInt(8) < 6 ? 0 : 1;
        int k = key();
        int v = value();
        String op = pick();
        switch (op) {
            case "put" -> same("put", x -> x.put(f, k, v), model.write(f, Model.Kind.PUT, k, k, v));
            case "mark" -> same("mark", x -> x.mark(f, k), model.write(f, Model.Kind.MARK, k, k, 0));
            case "add" -> same("add", x -> x.add(f, k, v), model.write(f, Model.Kind.ADD, k, k, v));
            case "clear" -> {
                int to = Math.min(63, k + random.nextInt(random.nextInt(4) == 0 ? 40 : 5));
                same("clear", x -> x.clear(f, k, to), model.write(f, Model.Kind.CLEAR, k, to, 0));
            }
            case "get" -> {
                int s = random.nextBoolean() ? -1 : some(model.snapshots.size());
                same("get", x -> x.get(f, k, s), model.get(f, k, s));
            }
            case "next" -> {
                int s = random.nextBoolean() ? -1 : some(model.snapshots.size());
                boolean isForward = random.nextBoolean();
                same("next", x -> x.next(f, k, isForward, s), model.next(f, k, isForward, s));
            }
            case "snapshot" -> same("snapshot", x -> x.snapshot(), model.open(model.snapshots));
            case "release" -> {
                int s = some(model.snapshots.size());
                same("release", x -> { x.release(s); return 0; }, model.release(s));
            }
            case "pins" -> {
                int s = some(model.snapshots.size());
                same("pins", x -> x.pins(s), model.pins(s));
            }
            default -> otherStep(op, f, k, v);
        }
        noteMaps();
    }

    private void otherStep(String op, int f, int k, int v) {
        int t = some(model.transactions.size());
        int put = random.nextInt(4) == 0 ? Model.NO_VALUE : v;
        boolean is = random.nextBoolean();
        int left = random.nextInt(random.nextBoolean() ? 4 : 101);
        switch (op) {
            case "begin" -> same("begin", x -> x.begin(), model.open(model.transactions));
            case "read" -> same("read", x -> x.read(t, f, k), model.read(t, f, k));
            case "write" -> same("write", x -> x.write(t, f, k, put), model.letWait(t, f, k, put));
            case "commit" -> same("commit", x -> x.commit(t), model.commit(t));
            case "flush" -> same("flush", x -> x.flush(f), model.flush(f));
            case "compact" -> same("compact", x -> x.compact(f), model.compact(f));
            case "whole" -> same("whole", x -> x.whole(f), model.whole(f));
            case "row" -> {
                int last = model.draft.isEmpty() ? 0 : model.draft.lastKey();
                int row = random.nextInt(10) == 0 ? k : Math.min(63, last + random.nextInt(6));
                same("row", x -> x.row(row, v), model.row(row, v));
            }
            case "take" -> same("take", x -> x.take(f), model.take(f));
            case "sync" -> same("sync", x -> x.sync(), model.sync());
            case "crash" -> same("crash", x -> x.crash(left), model.crash(left));
            default -> same("cut", x -> x.cut(f, is), model.cut(is));
        }
    }

    /** Carries the plain map on by what the model wrote last: it was written in order, number by number. */
    private void noteMaps() {
        while (maps.size() > model.number + 1) {
            maps.remove(maps.size() - 1);
        }
        for (int number = maps.size(); number <= model.number; number++) {
            int[] map = maps.get(number - 1).clone();
            for (int family = 0; family < 2; family++) {
                for (Model.Item item : model.everWritten.get(family)) {
                    if (item.number() == number) {
                        apply(map, family, item);
                    }
                }
            }
            maps.add(map);
        }
    }

    private static void apply(int[] map, int family, Model.Item item) {
        for (int key = item.from(); key <= item.to(); key++) {
            int slot = family * 64 + key;
            map[slot] = switch (item.kind()) {
                case PUT -> item.value();
                case ADD -> (map[slot] == Model.NO_VALUE ? 0 : map[slot]) + item.value();
                default -> Model.NO_VALUE;
            };
        }
    }

    private void ask(String what, Call call, int want) {
        questions.add(List.of(new Step(what, call, want)));
    }

    /** Asks for the whole state, as often as it takes on new objects that were led there. */
    private void lookAtAll() {
        questions.clear();
        askForRuns();
        int looked = model.looked;
        for (int f = 0; f < 2; f++) {
            askForReads(f, -1, model.number, 64);
            for (int s = 0; s < model.snapshots.size(); s++) {
                if (!model.snapshots.get(s).isOver) {
                    askForReads(f, s, model.snapshots.get(s).number, 12);
                }
            }
        }
        model.looked = looked;
        int at = 0;
        while (at < questions.size()) {
            Stratalog x = new Stratalog();
            compare(x, steps);
            List<Step> asked = new ArrayList<>();
            while (at < questions.size() && steps.size() + asked.size() + questions.get(at).size() <= CALLS) {
                asked.addAll(questions.get(at));
                at++;
            }
            compare(x, asked);
        }
    }

    private void askForRuns() {
        ask("number", x -> x.number(), model.number);
        ask("unsure", x -> x.unsure(), model.unsure.size());
        ask("looked", x -> x.looked(), model.looked);
        for (int f = 0; f < 2; f++) {
            int family = f;
            ask("table", x -> x.table(family), model.table(f));
            ask("pressure", x -> x.pressure(family), model.pressure(f));
            for (int l = 0; l < 4; l++) {
                int level = l;
                for (int w = 0; w < 4; w++) {
                    int what = w;
                    ask("level", x -> x.level(family, level, what), model.level(f, l, w));
                    for (int p = -1; p <= model.levels.get(f).get(l).size(); p++) {
                        int place = p;
                        ask("run", x -> x.run(family, level, place, what), model.run(f, l, p, w));
                    }
                }
            }
        }
    }

    /** Reads so many keys; as the aim is, each is what a plain map had then. */
    private void askForReads(int f, int s, int number, int count) {
        int[] map = maps.get(number);
        for (int i = 0; i < count; i++) {
            int key = count == 64 ? i : random.nextInt(keys);
            model.get(f, key, s);
            Step get = new Step("get of " + key + " by " + number, x -> x.get(f, key, s), map[f * 64 + key]);
            questions.add(List.of(get, new Step("looked", x -> x.looked(), model.looked)));
        }
    }
}
