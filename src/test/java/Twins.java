import java.util.ArrayList;
import java.util.List;

/**
 * Shows that a call changes nothing: after it an object answers all that follows as its twin does, on which the
 * call was not made. What follows is a list of probes, each of them on twins of their own, as most of them
 * change what they ask; with the calls that make an object none comes near to 512 calls.
 */
final class Twins {
    private static final int NONE = Stratalog.NONE;

    private interface Probe {
        void on(Stratalog x, Answers answers);
    }

    /** What a probe was answered, as a text. */
    private static final class Answers {
        private final StringBuilder text = new StringBuilder();

        private interface Call {
            int answer();
        }

        void note(String call, Call made) {
            int[] answer = new int[1];
            String thrown = Check.thrownBy(() -> answer[0] = made.answer());
            text.append(call).append(thrown.equals("nothing") ? ": " + answer[0] : " throws " + thrown).append('\n');
        }
    }

    private static final List<Probe> PROBES = List.of(
            Twins::tell, Twins::readsOfZero, Twins::readsOfOne, Twins::snapshots, Twins::transactions,
            Twins::commits, Twins::conflicts, Twins::drafts, Twins::compactions, Twins::crashes, Twins::loss,
            Twins::cuts);

    private final TestBase.Script made;
    private final List<String> due = new ArrayList<>();

    Twins(TestBase.Script made) {
        this.made = made;
        for (Probe probe : PROBES) {
            due.add(answersOf(probe, fresh()));
        }
    }

    Stratalog fresh() {
        Stratalog x = new Stratalog();
        made.on(x);
        return x;
    }

    private static String answersOf(Probe probe, Stratalog x) {
        Answers answers = new Answers();
        probe.on(x, answers);
        return answers.text.toString();
    }

    /** Makes a call that throws, and compares what follows. */
    void compare(String call, String exception, TestBase.Script wrong) {
        for (int i = 0; i < PROBES.size(); i++) {
            Stratalog x = fresh();
            Check.dueText(call, "throws " + Check.thrownBy(() -> wrong.on(x)), "throws " + exception);
            String got = answersOf(PROBES.get(i), x);
            Check.dueText(call + ", what follows", firstDifference(got, due.get(i)), "the same");
        }
    }

    private static String firstDifference(String got, String want) {
        String[] gots = got.split("\n");
        String[] wants = want.split("\n");
        for (int i = 0; i < gots.length && i < wants.length; i++) {
            if (!gots[i].equals(wants[i])) {
                return gots[i] + " in place of " + wants[i];
            }
        }
        return gots.length == wants.length ? "the same" : "another count of answers";
    }

    // ---- probes

    private static void tell(Stratalog x, Answers answers) {
        answers.note("looked", x::looked);
        answers.note("number", x::number);
        answers.note("unsure", x::unsure);
        for (int f = 0; f < 2; f++) {
            int family = f;
            answers.note("table", () -> x.table(family));
            answers.note("pressure", () -> x.pressure(family));
            for (int l = 0; l < 4; l++) {
                tellLevel(x, family, l, answers);
            }
        }
    }

    private static void tellLevel(Stratalog x, int family, int level, Answers answers) {
        int runs = x.level(family, level, 0);
        for (int w = 0; w < 4; w++) {
            int what = w;
            answers.note("level", () -> x.level(family, level, what));
            for (int p = 0; p <= runs; p++) {
                int place = p;
                answers.note("run", () -> x.run(family, level, place, what));
            }
        }
    }

    private static void readsOfZero(Stratalog x, Answers answers) {
        reads(x, 0, answers);
    }

    private static void readsOfOne(Stratalog x, Answers answers) {
        reads(x, 1, answers);
    }

    private static void reads(Stratalog x, int family, Answers answers) {
        for (int k = 0; k < 64; k++) {
            int key = k;
            answers.note("get of " + key, () -> x.get(family, key, NONE));
            answers.note("looked", x::looked);
        }
    }

    private static void snapshots(Stratalog x, Answers answers) {
        for (int s = 0; s < 30; s++) {
            int snapshot = s;
            answers.note("pins of " + s, () -> x.pins(snapshot));
            answers.note("get by " + s, () -> x.get(0, 5, snapshot));
            answers.note("next by " + s, () -> x.next(1, 0, true, snapshot));
        }
        for (int s = 0; s < 31; s++) {
            answers.note("snapshot", x::snapshot);
        }
    }

    private static void transactions(Stratalog x, Answers answers) {
        for (int t = 0; t < 30; t++) {
            int transaction = t;
            for (int key : new int[] {0, 5, 63}) {
                answers.note("read by " + t, () -> x.read(transaction, 0, key));
                answers.note("read by " + t, () -> x.read(transaction, 1, key));
            }
            answers.note("write by " + t, () -> x.write(transaction, 0, 33, 1));
        }
        for (int t = 0; t < 31; t++) {
            answers.note("begin", x::begin);
        }
    }

    private static void commits(Stratalog x, Answers answers) {
        for (int t = 0; t < 30; t++) {
            int transaction = t;
            answers.note("commit of " + t, () -> x.commit(transaction));
            answers.note("number", x::number);
        }
        tell(x, answers);
        reads(x, 0, answers);
    }

    /** Writes at keys that a refused call might have noted as read. */
    private static void conflicts(Stratalog x, Answers answers) {
        for (int key : new int[] {0, 1, 6, 62, 63}) {
            answers.note("put", () -> x.put(0, key, 1));
            answers.note("put", () -> x.put(1, key, 1));
        }
        commits(x, answers);
    }

    private static void drafts(Stratalog x, Answers answers) {
        answers.note("row", () -> x.row(50, 1));
        answers.note("row", () -> x.row(63, 2));
        answers.note("take", () -> x.take(0));
        tell(x, answers);
        answers.note("get", () -> x.get(0, 63, NONE));
        answers.note("take", () -> x.take(1));
        answers.note("row", () -> x.row(0, 1));
    }

    private static void compactions(Stratalog x, Answers answers) {
        for (int i = 0; i < 4; i++) {
            answers.note("compact", () -> x.compact(0));
            answers.note("compact", () -> x.compact(1));
        }
        tell(x, answers);
        answers.note("whole", () -> x.whole(0));
        answers.note("whole", () -> x.whole(1));
        tell(x, answers);
    }

    private static void crashes(Stratalog x, Answers answers) {
        answers.note("crash", () -> x.crash(2));
        tell(x, answers);
        reads(x, 0, answers);
        answers.note("snapshot", x::snapshot);
        answers.note("begin", x::begin);
    }

    private static void loss(Stratalog x, Answers answers) {
        answers.note("crash", () -> x.crash(0));
        tell(x, answers);
        reads(x, 0, answers);
        answers.note("sync", x::sync);
    }

    private static void cuts(Stratalog x, Answers answers) {
        answers.note("sync", x::sync);
        answers.note("cut", () -> x.cut(1, false));
        tell(x, answers);
        answers.note("flush", () -> x.flush(0));
        answers.note("flush", () -> x.flush(1));
        tell(x, answers);
    }
}
