import java.util.ArrayList;
import java.util.LinkedHashMap;
import java.util.List;
import java.util.Map;
import java.util.NoSuchElementException;
import java.util.Random;

/** Runs of 512 calls drawn from fixed seeds, each answer compared with a slow model of the document. */
public final class ModelTest extends Checks {
    private static final class Held {
        final int line;
        final boolean[] there = new boolean[4];
        final boolean[] changed = new boolean[4];
        boolean locked;

        Held(int line) {
            this.line = line;
        }

        int bits(boolean[] parts) {
            return (parts[0] ? 1 : 0) + (parts[1] ? 2 : 0) + (parts[2] ? 4 : 0) + (parts[3] ? 8 : 0);
        }

        int dirty() {
            return Integer.bitCount(bits(changed));
        }
    }

    /** What a set's rule knows: all that it was told, and what its pickings left. */
    private static final class RuleState {
        /** {way, 1 for a coming or 0 for a use}, in order. */
        final List<int[]> told = new ArrayList<>();
        final boolean[] mark = new boolean[8];
        final int[] age = new int[8];
        final boolean[] tree = new boolean[8];
        int hand;

        RuleState copy() {
            RuleState c = new RuleState();
            c.told.addAll(told);
            System.arraycopy(mark, 0, c.mark, 0, 8);
            System.arraycopy(age, 0, c.age, 0, 8);
            System.arraycopy(tree, 0, c.tree, 0, 8);
            c.hand = hand;
            return c;
        }
    }

    private static final class Model {
        final int sets;
        final int width;
        final int rule;
        final int room;
        final Held[][] ways;
        final RuleState[] states;
        final List<Held> rows = new ArrayList<>();
        final List<Integer> recent = new ArrayList<>();
        final List<Integer> distances = new ArrayList<>();
        final List<Integer> kinds = new ArrayList<>();
        final Map<Integer, List<Integer>> asks = new LinkedHashMap<>();
        List<int[]> done = new ArrayList<>();
        boolean through;
        boolean places = true;
        long x = 1;
        int fetched;
        int writes;
        int wentOut;

        Model(int s, int w, int r, int v) {
            sets = new int[] {1, 2, 4, 8, 16}[(int) (((long) s % 5 + 5) % 5)];
            width = (int) (1 + (((long) w - 1) % 8 + 8) % 8);
            rule = (int) (((long) r % 10 + 10) % 10);
            room = (int) (((long) v % 5 + 5) % 5);
            ways = new Held[sets][width];
            states = new RuleState[sets];
            for (int k = 0; k < sets; k++) {
                states[k] = new RuleState();
            }
        }

        int setOf(int line) {
            return (int) (((long) line % sets + sets) % sets);
        }

        Held inWay(int line) {
            for (Held h : ways[setOf(line)]) {
                if (h != null && h.line == line) {
                    return h;
                }
            }
            return null;
        }

        Held inRows(int line) {
            for (Held h : rows) {
                if (h.line == line) {
                    return h;
                }
            }
            return null;
        }

        Held anywhere(int line) {
            return inWay(line) != null ? inWay(line) : inRows(line);
        }

        List<Integer> free(int set) {
            List<Integer> list = new ArrayList<>();
            for (int w = 0; w < width; w++) {
                if (ways[set][w] == null || !ways[set][w].locked) {
                    list.add(w);
                }
            }
            return list;
        }

        int lastTold(RuleState s, int way, boolean comingsOnly) {
            for (int k = s.told.size() - 1; k >= 0; k--) {
                if (s.told.get(k)[0] == way && (!comingsOnly || s.told.get(k)[1] == 1)) {
                    return k;
                }
            }
            return -1;
        }

        int usesSinceComing(RuleState s, int way) {
            int n = 0;
            for (int k = lastTold(s, way, true) + 1; k < s.told.size(); k++) {
                n += s.told.get(k)[0] == way ? 1 : 0;
            }
            return n;
        }

        /** Ways, the longest ago first, where a coming goes before all. */
        List<Integer> orderOf9(RuleState s) {
            List<Integer> order = new ArrayList<>();
            for (int[] t : s.told) {
                order.remove((Integer) t[0]);
                order.add(t[1] == 1 ? 0 : order.size(), t[0]);
            }
            return order;
        }

        /** A way's node bits on its way up from the top, as the document draws the tree. */
        void tell(int set, int way, boolean coming) {
            RuleState s = states[set];
            s.told.add(new int[] {way, coming ? 1 : 0});
            if (rule == 5) {
                s.mark[way] = !coming;
            }
            if (rule == 6) {
                int low = 0;
                int high = leaves();
                int node = 1;
                while (high - low > 1) {
                    int mid = (low + high) / 2;
                    boolean left = way < mid;
                    s.tree[node] = left;
                    node = left ? 2 * node : 2 * node + 1;
                    if (left) {
                        high = mid;
                    } else {
                        low = mid;
                    }
                }
            }
            if (rule == 7) {
                s.mark[way] = true;
                int n = 0;
                for (int w = 0; w < width; w++) {
                    n += s.mark[w] ? 1 : 0;
                }
                if (n == width) {
                    for (int w = 0; w < width; w++) {
                        s.mark[w] = w == way;
                    }
                }
            }
            if (rule == 8) {
                s.age[way] = coming ? 2 : 0;
            }
        }

        int leaves() {
            int p = 1;
            while (p < width) {
                p *= 2;
            }
            return p;
        }

        /** Picks among the free ways (there is one), changing the state that it is given. */
        int pick(int set, RuleState s) {
            List<Integer> free = free(set);
            switch (rule) {
                case 3:
                    return free.get((int) (x / 65536 % free.size()));
                case 5:
                    while (true) {
                        int at = s.hand;
                        s.hand = (s.hand + 1) % width;
                        if (!free.contains(at)) {
                            continue;
                        }
                        if (!s.mark[at]) {
                            return at;
                        }
                        s.mark[at] = false;
                    }
                case 6:
                    int node = 1;
                    while (node < leaves()) {
                        node = s.tree[node] ? 2 * node + 1 : 2 * node;
                    }
                    int way = node - leaves();
                    while (!free.contains(way)) {
                        way = (way + 1) % leaves();
                    }
                    return way;
                case 7:
                    for (int w : free) {
                        if (!s.mark[w]) {
                            return w;
                        }
                    }
                    return free.get(0);
                case 8:
                    while (true) {
                        for (int w : free) {
                            if (s.age[w] == 3) {
                                return w;
                            }
                        }
                        for (int w : free) {
                            s.age[w]++;
                        }
                    }
                case 9:
                    for (int w : orderOf9(s)) {
                        if (free.contains(w)) {
                            return w;
                        }
                    }
                    throw new IllegalStateException();
                default:
                    return pickByTime(s, free);
            }
        }

        int pickByTime(RuleState s, List<Integer> free) {
            int best = free.get(0);
            for (int w : free) {
                boolean better;
                if (rule == 1) {
                    better = lastTold(s, w, true) < lastTold(s, best, true);
                } else if (rule == 2) {
                    better = lastTold(s, w, false) > lastTold(s, best, false);
                } else {
                    better = lastTold(s, w, false) < lastTold(s, best, false);
                    if (rule == 4 && usesSinceComing(s, w) != usesSinceComing(s, best)) {
                        better = usesSinceComing(s, w) < usesSinceComing(s, best);
                    }
                }
                best = better ? w : best;
            }
            return best;
        }

        boolean place(Held h) {
            int set = setOf(h.line);
            int to = -1;
            for (int w = width - 1; w >= 0; w--) {
                to = ways[set][w] == null ? w : to;
            }
            if (to < 0) {
                if (free(set).isEmpty()) {
                    return false;
                }
                to = pick(set, states[set]);
                x = (1103515245L * x + 12345) % (1L << 31);
                wentOut++;
                rows.remove(h);
                rows.add(ways[set][to]);
                if (rows.size() > room) {
                    writes += rows.remove(0).dirty();
                }
            }
            rows.remove(h);
            ways[set][to] = h;
            tell(set, to, true);
            return true;
        }

        int access(int line, int part, boolean write) {
            int kind = reach(line, part, write);
            if (write) {
                if (through || anywhere(line) == null) {
                    writes++;
                } else {
                    anywhere(line).changed[part] = true;
                }
            }
            distances.add(recent.indexOf(line));
            recent.remove((Integer) line);
            recent.add(0, line);
            if (recent.size() > 64) {
                recent.remove(64);
            }
            kinds.add(kind);
            return kind;
        }

        int reach(int line, int part, boolean write) {
            Held h = anywhere(line);
            boolean way = inWay(line) != null;
            if (h == null && write && !places) {
                return 3;
            }
            boolean hit = h != null && h.there[part];
            fetched += hit ? 0 : 1;
            if (h == null) {
                h = new Held(line);
                h.there[part] = true;
                return place(h) ? 3 : 4;
            }
            h.there[part] = true;
            if (!way) {
                place(h);
                return 2;
            }
            for (int w = 0; w < width; w++) {
                if (ways[setOf(line)][w] == h) {
                    tell(setOf(line), w, false);
                }
            }
            return hit ? 0 : 1;
        }

        int waiting() {
            int n = 0;
            for (List<Integer> parts : asks.values()) {
                n += parts.size();
            }
            return n;
        }

        int ask(int line, int part) {
            if (inWay(line) != null && inWay(line).there[part]) {
                access(line, part, false);
                return 0;
            }
            boolean known = asks.containsKey(line);
            if (waiting() == 16 || !known && asks.size() == 4) {
                throw new UnsupportedOperationException();
            }
            asks.computeIfAbsent(line, k -> new ArrayList<>()).add(part);
            return known ? 2 : 1;
        }

        int answer() {
            if (asks.isEmpty()) {
                throw new NoSuchElementException();
            }
            int line = asks.keySet().iterator().next();
            done = new ArrayList<>();
            for (int part : asks.remove(line)) {
                done.add(new int[] {part, access(line, part, false)});
            }
            return done.size();
        }

        int lock(int line, boolean on) {
            Held h = inWay(line);
            boolean fresh = h != null && h.locked != on;
            if (fresh) {
                h.locked = on;
            }
            return fresh ? 1 : 0;
        }

        int clean(Held h) {
            if (h == null) {
                return 0;
            }
            int n = h.dirty();
            writes += n;
            for (int p = 0; p < 4; p++) {
                h.changed[p] = false;
            }
            return n;
        }

        int cleanAll() {
            int n = 0;
            for (Held[] set : ways) {
                for (Held h : set) {
                    n += clean(h);
                }
            }
            for (Held h : rows) {
                n += clean(h);
            }
            return n;
        }

        int drop(int line) {
            Held h = anywhere(line);
            if (h == null) {
                return -1;
            }
            rows.remove(h);
            for (int w = 0; w < width; w++) {
                if (ways[setOf(line)][w] == h) {
                    ways[setOf(line)][w] = null;
                }
            }
            return h.dirty();
        }

        int way(int set, int way, int what) {
            if (set < 0 || set >= sets || way < 0 || way >= width || what < 0 || what > 4) {
                throw new IndexOutOfBoundsException();
            }
            Held h = ways[set][way];
            if (h == null) {
                return 0;
            }
            return new int[] {h.line, 1, h.bits(h.there), h.bits(h.changed), h.locked ? 1 : 0}[what];
        }

        int caught(int k, int what) {
            if (k < 0 || k >= rows.size() || what < 0 || what > 2) {
                throw new IndexOutOfBoundsException();
            }
            Held h = rows.get(k);
            return new int[] {h.line, h.bits(h.there), h.bits(h.changed)}[what];
        }

        int next(int set) {
            if (set < 0 || set >= sets) {
                throw new IndexOutOfBoundsException();
            }
            for (Held h : ways[set]) {
                if (h == null) {
                    return -1;
                }
            }
            return free(set).isEmpty() ? -1 : pick(set, states[set].copy());
        }

        int misses(int n) {
            if (n < 1 || n > 64) {
                throw new IllegalArgumentException();
            }
            int sum = 0;
            for (int d : distances) {
                sum += d < 0 || d >= n ? 1 : 0;
            }
            return sum;
        }

        int count(int what) {
            if (what >= 1 && what <= 5) {
                int n = 0;
                for (int kind : kinds) {
                    n += kind == what - 1 ? 1 : 0;
                }
                return n;
            }
            switch (what) {
                case 0: return kinds.size();
                case 6: return fetched;
                case 7: return writes;
                case 8: return wentOut;
                case 9: return rows.size();
                case 10: return waiting();
                case 11: return asks.size();
                case 12: return sets;
                case 13: return width;
                default: return -1;
            }
        }

        int answered(int k, int what) {
            if (k < 0 || k >= done.size() || what < 0 || what > 1) {
                throw new IndexOutOfBoundsException();
            }
            return done.get(k)[what];
        }

        int mode(boolean t, boolean p) {
            int was = (through ? 1 : 0) + (places ? 2 : 0);
            through = t;
            places = p;
            return was;
        }
    }

    private static CacheRules real;
    private static Model model;

    /** An int answer, or the name of what was thrown. */
    private static String call(boolean ofModel, String name, int a, int b, int c) {
        try {
            return "" + (ofModel ? modelCall(name, a, b, c) : realCall(name, a, b, c));
        } catch (RuntimeException e) {
            return e.getClass().getName();
        }
    }

    private static int realCall(String name, int a, int b, int c) {
        switch (name) {
            case "mode": return real.mode(a != 0, b != 0);
            case "access": return real.access(a, b, c != 0);
            case "ask": return real.ask(a, b);
            case "answer": return real.answer();
            case "answered": return real.answered(a, b);
            case "lock": return real.lock(a, b != 0) ? 1 : 0;
            case "clean": return real.clean(a);
            case "cleanAll": return real.cleanAll();
            case "drop": return real.drop(a);
            case "way": return real.way(a, b, c);
            case "caught": return real.caught(a, b);
            case "next": return real.next(a);
            case "misses": return real.misses(a);
            case "distance": return real.distance(a);
            default: return real.count(a);
        }
    }

    private static int modelCall(String name, int a, int b, int c) {
        boolean partCall = name.equals("access") || name.equals("ask");
        if (partCall && (b < 0 || b > 3)) {
            throw new IndexOutOfBoundsException();
        }
        switch (name) {
            case "mode": return model.mode(a != 0, b != 0);
            case "access": return model.access(a, b, c != 0);
            case "ask": return model.ask(a, b);
            case "answer": return model.answer();
            case "answered": return model.answered(a, b);
            case "lock": return model.lock(a, b != 0);
            case "clean": return model.clean(model.anywhere(a));
            case "cleanAll": return model.cleanAll();
            case "drop": return model.drop(a);
            case "way": return model.way(a, b, c);
            case "caught": return model.caught(a, b);
            case "next": return model.next(a);
            case "misses": return model.misses(a);
            case "distance": return model.recent.indexOf(a);
            default: return model.count(a);
        }
    }

    private static void compare(String run, String name, int a, int b, int c) {
        String want = call(true, name, a, b, c);
        String got = call(false, name, a, b, c);
        about = run;
        due(name + "(" + a + ", " + b + ", " + c + ")", got, want);
    }

    /** Everything that can be looked at. */
    private static void compareAll(String run) {
        for (int set = 0; set < model.sets; set++) {
            compare(run, "next", set, 0, 0);
            for (int way = 0; way < model.width; way++) {
                for (int what = 0; what <= 4; what++) {
                    compare(run, "way", set, way, what);
                }
            }
        }
        for (int k = 0; k <= 4; k++) {
            for (int what = 0; what <= 2; what++) {
                compare(run, "caught", k, what, 0);
            }
        }
        for (int what = -1; what <= 14; what++) {
            compare(run, "count", what, 0, 0);
        }
        for (int k = 0; k <= 16; k++) {
            compare(run, "answered", k, 0, 0);
            compare(run, "answered", k, 1, 0);
        }
        for (int n = 0; n <= 65; n++) {
            compare(run, "misses", n, 0, 0);
        }
    }

    private static final int[] FAR = {Integer.MIN_VALUE, Integer.MAX_VALUE, -1, 5, 64, 65, 16, 100};

    private static int argument(Random r, int low, int high) {
        return r.nextInt(40) == 0 ? FAR[r.nextInt(FAR.length)] : low + r.nextInt(high - low + 1);
    }

    private static void oneRun(long seed) {
        Random r = new Random(seed);
        int s = argument(r, -6, 6);
        int w = argument(r, -9, 9);
        int rule = (int) (seed % 10);
        int v = argument(r, -6, 6);
        real = new CacheRules(s, w, rule, v);
        model = new Model(s, w, rule, v);
        String run = "seed " + seed + ", (" + s + ", " + w + ", " + rule + ", " + v + ")";
        // A few sets alone are used, so that they fill; the span decides how often lines come back.
        int step = r.nextBoolean() ? model.sets : 1;
        int span = new int[] {model.width + 2, 2 * model.width + 3, 90}[r.nextInt(3)];
        int lockOften = r.nextInt(4);
        int askOften = r.nextInt(4);
        for (int k = 0; k < 512; k++) {
            int line = step * (r.nextInt(span) - span / 3);
            int die = r.nextInt(100);
            if (die < 3 * lockOften) {
                compare(run, "lock", line, r.nextInt(3) == 0 ? 0 : 1, 0);
            } else if (die < 3 * lockOften + 2) {
                compare(run, "lock", line, 0, 0);
            } else if (die < 13 + 9 * askOften) {
                compare(run, "ask", askOften > 2 ? r.nextInt(5) : line, argument(r, 0, 3), 0);
            } else if (die < 15 + 10 * askOften) {
                compare(run, "answer", 0, 0, 0);
            } else if (die < 47) {
                compare(run, "access", line, argument(r, 0, 3), r.nextInt(2));
            } else if (die < 49) {
                compare(run, "clean", line, 0, 0);
            } else if (die < 50 && r.nextInt(3) == 0) {
                compare(run, "cleanAll", 0, 0, 0);
            } else if (die < 53) {
                compare(run, "drop", line, 0, 0);
            } else if (die < 55) {
                compare(run, "mode", r.nextInt(2), r.nextInt(2), 0);
            } else if (die < 57) {
                compare(run, "distance", line, 0, 0);
            } else if (die < 59) {
                compare(run, "way", argument(r, -1, 16), argument(r, -1, 8), argument(r, -1, 5));
            } else if (die < 62) {
                compare(run, "next", argument(r, -1, 16), 0, 0);
            } else {
                compare(run, "access", line, r.nextInt(4), r.nextInt(2));
            }
            if (k % 32 == 31) {
                compareAll(run);
            }
        }
    }

    public static void main(String[] args) {
        // What follows the first wrong answers tells nothing new.
        for (long seed = 0; seed < 3000 && wrongs() < 20; seed++) {
            oneRun(seed);
        }
        end();
    }
}
