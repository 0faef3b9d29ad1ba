import java.util.Random;

/**
 * Random calls with arguments from anywhere, in whatever state they lead to: what a call throws, it throws by a throw
 * statement of its own, and it is an exception of the document. The seeds are written down.
 */
public final class WildTests {
    private static final int OBJECTS = 800, CALLS = 512;
    private static final int[] ANYWHERE = {Integer.MIN_VALUE, Integer.MIN_VALUE + 1, -1000000001, -1000000000, -10000,
        -9999, -65, -64, -3, -2, -1, 0, 1, 2, 3, 4, 5, 29, 30, 31, 63, 64, 65, 99, 100, 101, 127, 128, 9999, 10000,
        Integer.MAX_VALUE - 1, Integer.MAX_VALUE};

    private final Random random;
    private final Stratalog x = new Stratalog();
    /** Of a hundred arguments, how many are from anywhere. */
    private final int wild;

    private WildTests(int seed) {
        random = new Random(seed);
        wild = new int[] {0, 3, 10, 30, 90}[seed % 5];
    }

    public static void main(String[] args) {
        for (int seed = 0; seed < OBJECTS && Check.failures() == 0; seed++) {
            new WildTests(seed).go(seed);
        }
        System.out.println("WildTests");
        Check.end();
    }

    private void go(int seed) {
        for (int i = 0; i < CALLS; i++) {
            int which = random.nextInt(30);
            String thrown = Check.thrownBy(() -> make(which));
            boolean isOfTheDocument = thrown.equals("nothing") || thrown.equals("IllegalArgumentException")
                    || thrown.equals("IllegalStateException") || thrown.equals("IndexOutOfBoundsException");
            String what = "seed " + seed + ", call " + i + " of the kind " + which;
            Check.holds(what + " throws " + thrown, isOfTheDocument);
        }
    }

    private int from(int least, int greatest) {
        boolean isWild = random.nextInt(100) < wild;
        return isWild ? ANYWHERE[random.nextInt(ANYWHERE.length)] : least + random.nextInt(greatest - least + 1);
    }

    private int family() {
        return from(0, 1);
    }

    private int key() {
        return from(0, 63);
    }

    private int value() {
        return from(-9999, 9999);
    }

    private int view() {
        return from(-1, 8);
    }

    private void make(int which) {
        switch (which) {
            case 0, 1, 2 -> x.put(family(), key(), value());
            case 3 -> x.mark(family(), key());
            case 4, 5 -> x.add(family(), key(), value());
            case 6 -> x.clear(family(), from(0, 30), from(30, 63));
            case 7 -> x.get(family(), key(), view());
            case 8 -> x.next(family(), key(), random.nextBoolean(), view());
            case 9 -> x.snapshot();
            case 10 -> x.release(view());
            case 11 -> x.pins(view());
            case 12 -> x.begin();
            case 13 -> x.read(view(), family(), key());
            case 14 -> x.write(view(), family(), key(), from(0, 3) == 0 ? Stratalog.NO_VALUE : value());
            default -> makeOther(which);
        }
    }

    private void makeOther(int which) {
        switch (which) {
            case 15 -> x.commit(view());
            case 16, 17 -> x.flush(family());
            case 18, 19 -> x.compact(family());
            case 20 -> x.whole(family());
            case 21, 22 -> x.row(key(), value());
            case 23 -> x.take(family());
            case 24 -> x.level(family(), from(0, 3), from(0, 3));
            case 25 -> x.run(family(), from(0, 3), view(), from(0, 3));
            case 26 -> crashSeldom();
            case 27 -> x.table(family());
            case 28 -> x.pressure(family());
            default -> x.sync();
        }
    }

    private void crashSeldom() {
        switch (random.nextInt(30)) {
            case 0 -> x.crash(from(0, 100));
            case 1 -> x.cut(family(), random.nextBoolean());
            default -> x.looked();
        }
    }
}
