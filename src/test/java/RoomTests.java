import java.lang.management.ManagementFactory;
import java.util.function.IntConsumer;

/**
 * All calls of one run live in one room: 600,000 objects and arrays, 7.3 million fields and elements. Of ints
 * that is some 29 million bytes; what the dearest runs allocate is told, and may not be more.
 */
public final class RoomTests {
    private static final long MOST_BYTES = 29_000_000;

    private RoomTests() {
    }

    public static void main(String[] args) {
        room("new object", x -> { }, (x, i) -> { });
        room("pins", RoomTests::manyEntries, (x, i) -> x.pins(i % 5));
        room("pins of many parts", RoomTests::manyParts, (x, i) -> x.pins(0));
        room("whole of many parts", RoomTests::manyParts, (x, i) -> x.whole(0));
        room("next of many parts", RoomTests::manyParts, (x, i) -> x.next(0, i % 64, i % 2 == 0, -1));
        room("get", RoomTests::manyEntries, (x, i) -> x.get(0, i % 64, i % 5));
        room("begin and write", x -> { }, (x, i) -> {
            if (i < 30) {
                x.begin();
            } else {
                x.write(i % 30, i % 2, i % 64, i);
            }
        });
        room("take row by row", x -> { }, (x, i) -> {
            if (i % 2 == 0) {
                x.row(5, i);
            } else {
                x.take(0);
            }
        });
        room("put and flush", x -> { }, (x, i) -> {
            if (x.pressure(0) == 2) {
                x.compact(0);
            } else if (i % 2 == 0) {
                x.put(0, i % 64, i);
            } else {
                x.flush(0);
            }
        });
        room("put, flush and crash", x -> { }, (x, i) -> {
            switch (i % 4) {
                case 0 -> x.add(1, i % 61, i);
                case 1 -> x.flush(1);
                case 2 -> x.whole(1);
                default -> x.crash(1);
            }
        });
        System.out.println("RoomTests");
        Check.end();
    }

    private interface Step {
        void make(Stratalog x, int i);
    }

    private interface Start {
        void make(Stratalog x);
    }

    private static long allocated() {
        com.sun.management.ThreadMXBean bean =
                (com.sun.management.ThreadMXBean) ManagementFactory.getThreadMXBean();
        return bean.getThreadAllocatedBytes(Thread.currentThread().getId());
    }

    /** Starts with at most 256 calls, and goes on to 512. */
    private static void room(String name, Start start, Step step) {
        long before = allocated();
        Stratalog x = new Stratalog();
        start.make(x);
        for (int i = 0; i < 256; i++) {
            step.make(x, i);
        }
        long bytes = allocated() - before;
        System.out.println("  " + name + ": " + bytes + " bytes");
        Check.holds(name + " took " + bytes + " bytes, at most " + MOST_BYTES, bytes <= MOST_BYTES);
    }

    private static void times(int count, IntConsumer each) {
        for (int i = 0; i < count; i++) {
            each.accept(i);
        }
    }

    /** Entries of all keys in five stripes and in both families. */
    private static void manyEntries(Stratalog x) {
        for (int round = 0; round < 5; round++) {
            int by = round;
            times(23, i -> x.add(0, (i * 3 + by) % 64, 1));
            times(23, i -> x.put(1, (i * 3 + by) % 64, 1));
            x.flush(0);
            x.flush(1);
            x.snapshot();
        }
    }

    /** Runs of one key each, and CLEARs over all of them that a snapshot keeps. */
    private static void manyParts(Stratalog x) {
        for (int key = 0; key < 64; key++) {
            x.row(key, 1);
        }
        x.take(0);
        x.snapshot();
        for (int i = 1; i <= 180; i++) {
            x.clear(0, 0, 63);
            if (i % 36 == 0) {
                x.flush(0);
                x.whole(0);
            }
        }
    }
}
