import java.lang.reflect.InvocationTargetException;
import java.lang.reflect.Method;
import java.lang.reflect.Modifier;
import java.util.Map;
import java.util.TreeMap;

/** What the tests share: answers compared with those that are due, and what an object shows, as a text. */
abstract class Checks {
    static final Class<?> BAD_INDEX = IndexOutOfBoundsException.class;
    static final int NONE = CacheRules.NONE;
    static final int LEAST = Integer.MIN_VALUE;
    static final int GREATEST = Integer.MAX_VALUE;

    /** The promise, rule or sentence that the checks are about just now. */
    static String about = "";
    private static int wrong = 0;

    static void due(String call, Object got, Object want) {
        if (!want.equals(got)) {
            wrong++;
            System.out.println(about + ": " + call + " answered " + got + ", due is " + want);
        }
    }

    static void dueThrow(String call, Class<?> want, Runnable run) {
        Object got = "nothing";
        try {
            run.run();
        } catch (RuntimeException e) {
            got = e.getClass();
        }
        due(call + " throws", got, want);
    }

    /** The call throws, and the object shows the same behind it as before. */
    static void dueRefused(String call, Class<?> want, CacheRules x, Runnable run) {
        String before = state(x);
        dueThrow(call, want, run);
        due("all that shows behind " + call, state(x), before);
    }

    static int wrongs() {
        return wrong;
    }

    static void end() {
        System.out.println(wrong == 0 ? "all answers are as due" : wrong + " answers are not as due");
        if (wrong != 0) {
            System.exit(1);
        }
    }

    /** Runs every package-visible method without parameters of a test, one test each. */
    static void runAll(Class<?> tests) {
        Map<String, Method> byName = new TreeMap<>();
        for (Method m : tests.getDeclaredMethods()) {
            if (m.getModifiers() == Modifier.STATIC && m.getParameterCount() == 0 && !m.isSynthetic()) {
                byName.put(m.getName(), m);
            }
        }
        for (Method m : byName.values()) {
            about = m.getName();
            try {
                m.invoke(null);
            } catch (InvocationTargetException | IllegalAccessException e) {
                due("the test", String.valueOf(e.getCause()), "an end without an exception");
            }
        }
        System.out.println(byName.size() + " tests");
        end();
    }

    /** Reads part 0 of each line and says how the accesses were. */
    static String reads(CacheRules x, int... lines) {
        StringBuilder kinds = new StringBuilder();
        for (int line : lines) {
            kinds.append(x.access(line, 0, false));
        }
        return kinds.toString();
    }

    /** Writes each of the parts of a line and says how the accesses were. */
    static String writes(CacheRules x, int line, int... parts) {
        StringBuilder kinds = new StringBuilder();
        for (int part : parts) {
            kinds.append(x.access(line, part, true));
        }
        return kinds.toString();
    }

    static void lockAll(CacheRules x, int... lines) {
        for (int line : lines) {
            due("lock(" + line + ")", x.lock(line, true), true);
        }
    }

    static String linesOf(CacheRules x, int set) {
        StringBuilder text = new StringBuilder();
        for (int way = 0; way < x.count(13); way++) {
            text.append(x.way(set, way, 1) == 1 ? x.way(set, way, 0) + " " : "- ");
        }
        return text.toString().trim();
    }

    /** line, has one, there, changed, locked. */
    static String wayOf(CacheRules x, int set, int way) {
        StringBuilder text = new StringBuilder();
        for (int what = 0; what <= 4; what++) {
            text.append(what == 0 ? "" : ":").append(x.way(set, way, what));
        }
        return text.toString();
    }

    /** line:there:changed of each catching row. */
    static String caughtLines(CacheRules x) {
        StringBuilder text = new StringBuilder();
        for (int k = 0; k < x.count(9); k++) {
            text.append(x.caught(k, 0)).append(':').append(x.caught(k, 1)).append(':').append(x.caught(k, 2)).append(' ');
        }
        return text.toString().trim();
    }

    static String counts(CacheRules x) {
        StringBuilder text = new StringBuilder();
        for (int what = 0; what <= 13; what++) {
            text.append(x.count(what)).append(' ');
        }
        return text.toString().trim();
    }

    /** What can be looked at without a change; few sets and ways, for an object has 512 calls in all. */
    static String state(CacheRules x) {
        StringBuilder text = new StringBuilder();
        for (int set = 0; set < x.count(12); set++) {
            text.append("set ").append(set).append(" next ").append(x.next(set));
            for (int way = 0; way < x.count(13); way++) {
                text.append(' ').append(wayOf(x, set, way));
            }
            text.append("; ");
        }
        text.append("rows ").append(caughtLines(x)).append("; counts ").append(counts(x)).append("; distances");
        for (int line = 0; line < 10; line++) {
            text.append(' ').append(x.distance(line));
        }
        for (int n = 1; n <= 64; n = 4 * n) {
            text.append("; misses ").append(n).append(' ').append(x.misses(n));
        }
        return text.toString();
    }

    /** One set of the given width under a rule, with lines 0 .. width - 1 in ways 0 .. width - 1. */
    static CacheRules full(int rule, int width) {
        CacheRules x = new CacheRules(0, width, rule, 0);
        for (int line = 0; line < width; line++) {
            x.access(line, 0, false);
        }
        return x;
    }
}
