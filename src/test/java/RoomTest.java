import java.lang.management.ManagementFactory;

/** All calls of a run live in one room: a call makes no object, and a new one makes few. */
public final class RoomTest extends Checks {
    private static final int CALLS = 500;
    /** Few, so that the machine has not yet taken out objects that are made for nothing. */
    private static final int ROUNDS = 3;
    /** What one object may take: 8000 fields and elements would be far more than it needs. */
    private static final long MOST_FOR_ONE = 32_000;

    private static final com.sun.management.ThreadMXBean THREADS =
        (com.sun.management.ThreadMXBean) ManagementFactory.getThreadMXBean();

    private static long taken() {
        return THREADS.getThreadAllocatedBytes(Thread.currentThread().getId());
    }

    /** Calls that do not throw, of every method. */
    private static int call(CacheRules x, int k) {
        int line = k * 7 % 53;
        switch (k % 16) {
            case 0:
                return x.mode(k % 3 == 0, k % 5 != 0);
            case 1:
                return x.count(10) < 16 && x.count(11) < 4 ? x.ask(line, k / 16 % 4) : 0;
            case 2:
                return x.count(10) > 0 ? x.answer() + x.answered(0, 1) : 0;
            case 3:
                return x.lock(line, k % 64 < 20) ? 1 : 0;
            case 4:
                return x.clean(line);
            case 5:
                return k % 80 == 5 ? x.cleanAll() : x.drop(line);
            case 6:
                return x.way(0, 0, k / 16 % 5) + x.next(0);
            case 7:
                return x.count(9) > 0 ? x.caught(0, k % 3) : 0;
            case 8:
                return x.misses(1 + k % 64) + x.distance(line) + x.count(k % 20);
            default:
                return x.access(line, k / 16 % 4, k % 2 == 0);
        }
    }

    private static int run(CacheRules x) {
        int sum = 0;
        for (int k = 0; k < CALLS; k++) {
            sum += call(x, k);
        }
        return sum;
    }

    static void callsMakeNoObject() {
        for (int rule = 0; rule < 10; rule++) {
            about = "no call makes an object, rule " + rule;
            // The machine's own housekeeping may fall into one run; an object made by a call falls into each.
            long least = Long.MAX_VALUE;
            for (int round = 0; round < ROUNDS; round++) {
                CacheRules x = new CacheRules(1, 4, rule, 2);
                long before = taken();
                run(x);
                least = Math.min(least, taken() - before);
            }
            due("bytes taken by the calls of a run", least, 0L);
        }
    }

    static void aNewObjectTakesLittle() {
        for (int rule = 0; rule < 10; rule++) {
            about = "the greatest object, rule " + rule;
            long least = Long.MAX_VALUE;
            for (int round = 0; round < ROUNDS; round++) {
                long before = taken();
                CacheRules x = new CacheRules(4, 8, rule, 4);
                least = Math.min(least, taken() - before);
                due("its sets and ways", x.count(12) * x.count(13), 128);
            }
            due("it takes some room, within its limit", least > 0 && least <= MOST_FOR_ONE, true);
        }
    }

    public static void main(String[] args) {
        runAll(RoomTest.class);
    }
}
