import java.util.NoSuchElementException;

/**
 * A store of lines in sets, with ten rules of which line goes out, rows that catch what goes out,
 * asks that wait, and how far back every line lies.
 */
public final class CacheRules {
    /** Nothing there. */
    public static final int NONE = -1;

    private static final int PARTS = 4;

    private static final int HIT = 0;
    private static final int PART = 1;
    private static final int CAUGHT = 2;
    private static final int MISS = 3;
    private static final int PASSED_BY = 4;
    private static final int KINDS = 5;

    private final Ways ways;
    private final CatchingRows rows;
    private final Rule rule;
    private final Asks asks;
    private final History history;
    private final int[] kinds;
    private boolean through;
    private boolean places;
    private int accesses;
    private int fetched;
    private int writes;
    private int wentOut;

    public CacheRules(int sets, int ways, int rule, int victims) {
        int setCount = 1 << Math.floorMod(sets, 5);
        int wayCount = 1 + Math.floorMod(ways - 1, 8);
        this.ways = new Ways(setCount, wayCount);
        this.rows = new CatchingRows(Math.floorMod(victims, 5));
        this.rule = ruleOf(Math.floorMod(rule, 10), setCount, wayCount);
        this.asks = new Asks();
        this.history = new History();
        this.kinds = new int[KINDS];
        this.through = false;
        this.places = true;
    }

    private static Rule ruleOf(int number, int sets, int ways) {
        switch (number) {
            case 3:
                return new ChanceRule(ways);
            case 5:
                return new RoundRule(sets, ways);
            case 6:
                return new TreeRule(sets, ways);
            case 7:
                return new LatelyRule(sets, ways);
            case 8:
                return new AgeRule(sets, ways);
            default:
                return new TimeRule(number, sets, ways);
        }
    }

    public int mode(boolean through, boolean places) {
        int before = (this.through ? 1 : 0) + (this.places ? 2 : 0);
        this.through = through;
        this.places = places;
        return before;
    }

    public int access(int line, int part, boolean write) throws IndexOutOfBoundsException {
        if (isNoPart(part)) {
            throw new IndexOutOfBoundsException("no such part");
        }
        return perform(line, part, write);
    }

    public int ask(int line, int part) throws IndexOutOfBoundsException, UnsupportedOperationException {
        if (isNoPart(part)) {
            throw new IndexOutOfBoundsException("no such part");
        }
        int slot = ways.find(line);
        if (slot != NONE && (ways.there[slot] & 1 << part) != 0) {
            perform(line, part, false);
            return 0;
        }
        if (!asks.hasRoomFor(line)) {
            throw new UnsupportedOperationException("too many asks or lines wait");
        }
        return asks.add(line, part) ? 1 : 2;
    }

    public int answer() throws java.util.NoSuchElementException {
        if (asks.lineCount == 0) {
            throw new NoSuchElementException("no line waits");
        }
        int line = asks.takeFirstLine();
        for (int k = 0; k < asks.doneCount; k++) {
            asks.doneKind[k] = perform(line, asks.donePart[k], false);
        }
        return asks.doneCount;
    }

    public int answered(int k, int what) throws IndexOutOfBoundsException {
        if (k < 0 || k >= asks.doneCount || what < 0 || what > 1) {
            throw new IndexOutOfBoundsException("no such ask or what");
        }
        return what == 0 ? asks.donePart[k] : asks.doneKind[k];
    }

    public boolean lock(int line, boolean on) {
        int slot = ways.find(line);
        if (slot == NONE || ways.locked[slot] == on) {
            return false;
        }
        ways.locked[slot] = on;
        return true;
    }

    public int clean(int line) {
        int written = 0;
        int slot = ways.find(line);
        int row = rows.find(line);
        if (slot != NONE) {
            written = ways.cleanSlot(slot);
        } else if (row != NONE) {
            written = rows.cleanRow(row);
        }
        writes += written;
        return written;
    }

    public int cleanAll() {
        int written = 0;
        for (int slot = 0; slot < ways.slots; slot++) {
            written += ways.cleanSlot(slot);
        }
        for (int row = 0; row < rows.size; row++) {
            written += rows.cleanRow(row);
        }
        writes += written;
        return written;
    }

    public int drop(int line) {
        int slot = ways.find(line);
        if (slot != NONE) {
            int changed = Integer.bitCount(ways.changed[slot]);
            ways.empty(slot);
            return changed;
        }
        int row = rows.find(line);
        if (row != NONE) {
            int changed = Integer.bitCount(rows.changed[row]);
            rows.remove(row);
            return changed;
        }
        return NONE;
    }

    public int way(int set, int way, int what) throws IndexOutOfBoundsException {
        if (set < 0 || set >= ways.sets || way < 0 || way >= ways.width) {
            throw new IndexOutOfBoundsException("no such way");
        }
        int slot = set * ways.width + way;
        switch (what) {
            case 0:
                return ways.line[slot];
            case 1:
                return ways.has[slot] ? 1 : 0;
            case 2:
                return ways.there[slot];
            case 3:
                return ways.changed[slot];
            case 4:
                return ways.locked[slot] ? 1 : 0;
            default:
                throw new IndexOutOfBoundsException("no such what");
        }
    }

    public int caught(int k, int what) throws IndexOutOfBoundsException {
        if (k < 0 || k >= rows.size) {
            throw new IndexOutOfBoundsException("no such catching row");
        }
        switch (what) {
            case 0:
                return rows.line[k];
            case 1:
                return rows.there[k];
            case 2:
                return rows.changed[k];
            default:
                throw new IndexOutOfBoundsException("no such what");
        }
    }

    public int next(int set) throws IndexOutOfBoundsException {
        if (set < 0 || set >= ways.sets) {
            throw new IndexOutOfBoundsException("no such set");
        }
        return ways.emptyWay(set) != NONE ? NONE : rule.choose(set, ways.locked);
    }

    public int misses(int n) throws IllegalArgumentException {
        if (n < 1 || n > History.ROOM) {
            throw new IllegalArgumentException("a store has 1 to 64 lines");
        }
        return history.countFrom(n);
    }

    public int distance(int line) {
        return history.find(line);
    }

    public int count(int what) {
        if (what >= 1 && what <= KINDS) {
            return kinds[what - 1];
        }
        switch (what) {
            case 0:
                return accesses;
            case 6:
                return fetched;
            case 7:
                return writes;
            case 8:
                return wentOut;
            case 9:
                return rows.size;
            case 10:
                return asks.size;
            case 11:
                return asks.lineCount;
            case 12:
                return ways.sets;
            case 13:
                return ways.width;
            default:
                return NONE;
        }
    }

    private static boolean isNoPart(int part) {
        return part < 0 || part >= PARTS;
    }

    private int perform(int line, int part, boolean write) {
        int bit = 1 << part;
        history.note(line);
        int kind = reach(line, bit, write);
        if (write) {
            writePart(line, bit);
        }
        accesses++;
        kinds[kind]++;
        return kind;
    }

    private int reach(int line, int bit, boolean write) {
        int slot = ways.find(line);
        if (slot != NONE) {
            return useWay(ways.setOf(line), slot, bit);
        }
        int row = rows.find(line);
        if (row != NONE) {
            return recall(row, bit);
        }
        if (write && !places) {
            return MISS;
        }
        fetched++;
        if (ways.allLocked(ways.setOf(line))) {
            return PASSED_BY;
        }
        place(line, bit, 0);
        return MISS;
    }

    private int useWay(int set, int slot, int bit) {
        rule.use(set, slot - set * ways.width);
        if ((ways.there[slot] & bit) != 0) {
            return HIT;
        }
        ways.there[slot] |= bit;
        fetched++;
        return PART;
    }

    private int recall(int row, int bit) {
        if ((rows.there[row] & bit) == 0) {
            rows.there[row] |= bit;
            fetched++;
        }
        int line = rows.line[row];
        if (!ways.allLocked(ways.setOf(line))) {
            int there = rows.there[row];
            int changed = rows.changed[row];
            // It leaves its row first, so that the line it puts out finds room there.
            rows.remove(row);
            place(line, there, changed);
        }
        return CAUGHT;
    }

    private void place(int line, int there, int changed) {
        int set = ways.setOf(line);
        int way = ways.emptyWay(set);
        if (way == NONE) {
            way = rule.choose(set, ways.locked);
            if (way == NONE) {
                return;
            }
            rule.settle(set, way, ways.locked);
            putOut(set * ways.width + way);
        }
        ways.put(set * ways.width + way, line, there, changed);
        rule.come(set, way);
    }

    private void putOut(int slot) {
        wentOut++;
        if (rows.room == 0) {
            writes += Integer.bitCount(ways.changed[slot]);
            return;
        }
        if (rows.size >= rows.room) {
            writes += Integer.bitCount(rows.changed[0]);
            rows.remove(0);
        }
        rows.add(ways.line[slot], ways.there[slot], ways.changed[slot]);
    }

    private void writePart(int line, int bit) {
        int slot = ways.find(line);
        int row = rows.find(line);
        if (through || slot == NONE && row == NONE) {
            writes++;
        } else if (slot != NONE) {
            ways.changed[slot] |= bit;
        } else {
            rows.changed[row] |= bit;
        }
    }

    /** The ways of all sets in one row: slot = set * width + way. */
    static final class Ways {
        final int sets;
        final int width;
        final int slots;
        final int[] line;
        final boolean[] has;
        final int[] there;
        final int[] changed;
        final boolean[] locked;

        Ways(int sets, int width) {
            this.sets = sets;
            this.width = width;
            this.slots = sets * width;
            this.line = new int[slots];
            this.has = new boolean[slots];
            this.there = new int[slots];
            this.changed = new int[slots];
            this.locked = new boolean[slots];
        }

        int setOf(int wanted) {
            return wanted & (sets - 1);
        }

        int find(int wanted) {
            int first = setOf(wanted) * width;
            for (int slot = first; slot < first + width; slot++) {
                if (has[slot] && line[slot] == wanted) {
                    return slot;
                }
            }
            return NONE;
        }

        int emptyWay(int set) {
            for (int way = 0; way < width; way++) {
                if (!has[set * width + way]) {
                    return way;
                }
            }
            return NONE;
        }

        boolean allLocked(int set) {
            for (int way = 0; way < width; way++) {
                if (!locked[set * width + way]) {
                    return false;
                }
            }
            return true;
        }

        void put(int slot, int newLine, int newThere, int newChanged) {
            line[slot] = newLine;
            has[slot] = true;
            there[slot] = newThere;
            changed[slot] = newChanged;
        }

        void empty(int slot) {
            line[slot] = 0;
            has[slot] = false;
            there[slot] = 0;
            changed[slot] = 0;
            locked[slot] = false;
        }

        int cleanSlot(int slot) {
            int written = Integer.bitCount(changed[slot]);
            changed[slot] = 0;
            return written;
        }
    }

    /** The lines that went out of ways last, in the order in which they came. */
    static final class CatchingRows {
        final int room;
        final int[] line;
        final int[] there;
        final int[] changed;
        int size;

        CatchingRows(int room) {
            this.room = room;
            this.line = new int[room];
            this.there = new int[room];
            this.changed = new int[room];
        }

        int find(int wanted) {
            for (int row = 0; row < size; row++) {
                if (line[row] == wanted) {
                    return row;
                }
            }
            return NONE;
        }

        void add(int newLine, int newThere, int newChanged) {
            line[size] = newLine;
            there[size] = newThere;
            changed[size] = newChanged;
            size++;
        }

        void remove(int gone) {
            for (int row = gone; row + 1 < size; row++) {
                line[row] = line[row + 1];
                there[row] = there[row + 1];
                changed[row] = changed[row + 1];
            }
            size--;
        }

        int cleanRow(int row) {
            int written = Integer.bitCount(changed[row]);
            changed[row] = 0;
            return written;
        }
    }

    /** The asks that wait, in the order in which they came, and those that were answered last. */
    static final class Asks {
        static final int ROOM = 16;
        static final int LINE_ROOM = 4;

        final int[] lineOf = new int[ROOM];
        final int[] partOf = new int[ROOM];
        final int[] waiting = new int[LINE_ROOM];
        final int[] donePart = new int[ROOM];
        final int[] doneKind = new int[ROOM];
        int size;
        int lineCount;
        int doneCount;

        boolean waits(int line) {
            for (int k = 0; k < lineCount; k++) {
                if (waiting[k] == line) {
                    return true;
                }
            }
            return false;
        }

        boolean hasRoomFor(int line) {
            return size < ROOM && (lineCount < LINE_ROOM || waits(line));
        }

        /** Whether it is the first ask of its line. */
        boolean add(int line, int part) {
            boolean first = !waits(line);
            if (first) {
                waiting[lineCount] = line;
                lineCount++;
            }
            lineOf[size] = line;
            partOf[size] = part;
            size++;
            return first;
        }

        int takeFirstLine() {
            int line = waiting[0];
            int kept = 0;
            doneCount = 0;
            for (int k = 0; k < size; k++) {
                if (lineOf[k] == line) {
                    donePart[doneCount] = partOf[k];
                    doneCount++;
                } else {
                    lineOf[kept] = lineOf[k];
                    partOf[kept] = partOf[k];
                    kept++;
                }
            }
            size = kept;
            for (int k = 0; k + 1 < lineCount; k++) {
                waiting[k] = waiting[k + 1];
            }
            lineCount--;
            return line;
        }
    }

    /** The last different lines accessed, the latest first, and how often each distance was seen. */
    static final class History {
        static final int ROOM = 64;

        final int[] latest = new int[ROOM];
        final int[] seen = new int[ROOM];
        int size;
        int seenNone;

        int find(int line) {
            for (int k = 0; k < size; k++) {
                if (latest[k] == line) {
                    return k;
                }
            }
            return NONE;
        }

        void note(int line) {
            int from = find(line);
            if (from != NONE) {
                seen[from]++;
            } else {
                seenNone++;
                from = size < ROOM ? size : ROOM - 1;
                size = from + 1;
            }
            for (int k = from; k > 0; k--) {
                latest[k] = latest[k - 1];
            }
            latest[0] = line;
        }

        int countFrom(int least) {
            int sum = seenNone;
            for (int k = least; k < ROOM; k++) {
                sum += seen[k];
            }
            return sum;
        }
    }

    /** Which way of a set goes out; locked is by slots, as the ways are. */
    abstract static class Rule {
        final int width;

        Rule(int width) {
            this.width = width;
        }

        abstract void use(int set, int way);

        abstract void come(int set, int way);

        /** The way that would be picked, NONE when all are locked; changes nothing. */
        abstract int choose(int set, boolean[] locked);

        /** What picking the chosen way changes in the rule itself. */
        abstract void settle(int set, int way, boolean[] locked);

        /** On and round from a way: the first free one without a mark; when all have one, the first free one. */
        final int firstUnmarked(int set, int from, boolean[] mark, boolean[] locked) {
            int firstFree = NONE;
            for (int step = 0; step < width; step++) {
                int way = from + step < width ? from + step : from + step - width;
                if (!locked[set * width + way]) {
                    if (!mark[set * width + way]) {
                        return way;
                    }
                    if (firstFree == NONE) {
                        firstFree = way;
                    }
                }
            }
            return firstFree;
        }
    }

    /** Rules 0, 1, 2, 4 and 9: by the times of uses and comings. */
    static final class TimeRule extends Rule {
        private final int number;
        private final int[] last;
        private final int[] came;
        private final int[] uses;
        private int now;
        private int beforeAll;

        TimeRule(int number, int sets, int width) {
            super(width);
            this.number = number;
            this.last = new int[sets * width];
            this.came = new int[sets * width];
            this.uses = new int[sets * width];
        }

        @Override
        void use(int set, int way) {
            int slot = set * width + way;
            now++;
            last[slot] = now;
            uses[slot]++;
        }

        @Override
        void come(int set, int way) {
            int slot = set * width + way;
            now++;
            beforeAll--;
            last[slot] = number == 9 ? beforeAll : now;
            came[slot] = now;
            uses[slot] = 0;
        }

        @Override
        int choose(int set, boolean[] locked) {
            int best = NONE;
            int first = set * width;
            for (int way = 0; way < width; way++) {
                if (!locked[first + way] && (best == NONE || goesSooner(first + way, first + best))) {
                    best = way;
                }
            }
            return best;
        }

        private boolean goesSooner(int slot, int other) {
            if (number == 1) {
                return came[slot] < came[other];
            }
            if (number == 2) {
                return last[slot] > last[other];
            }
            if (number == 4 && uses[slot] != uses[other]) {
                return uses[slot] < uses[other];
            }
            return last[slot] < last[other];
        }

        @Override
        void settle(int set, int way, boolean[] locked) {
        }
    }

    /** Rule 3. */
    static final class ChanceRule extends Rule {
        private int x = 1;

        ChanceRule(int width) {
            super(width);
        }

        @Override
        void use(int set, int way) {
        }

        @Override
        void come(int set, int way) {
        }

        @Override
        int choose(int set, boolean[] locked) {
            int free = 0;
            for (int way = 0; way < width; way++) {
                free += locked[set * width + way] ? 0 : 1;
            }
            if (free == 0) {
                return NONE;
            }
            int left = x / 65536 % free;
            for (int way = 0; way < width; way++) {
                if (!locked[set * width + way]) {
                    if (left == 0) {
                        return way;
                    }
                    left--;
                }
            }
            return NONE;
        }

        @Override
        void settle(int set, int way, boolean[] locked) {
            x = (1103515245 * x + 12345) & 0x7fffffff;
        }
    }

    /** Rule 5. */
    static final class RoundRule extends Rule {
        private final boolean[] mark;
        private final int[] hand;

        RoundRule(int sets, int width) {
            super(width);
            this.mark = new boolean[sets * width];
            this.hand = new int[sets];
        }

        @Override
        void use(int set, int way) {
            mark[set * width + way] = true;
        }

        @Override
        void come(int set, int way) {
            mark[set * width + way] = false;
        }

        @Override
        int choose(int set, boolean[] locked) {
            // When all are marked a whole round takes the marks away: then it is the first that is free.
            return firstUnmarked(set, hand[set], mark, locked);
        }

        @Override
        void settle(int set, int way, boolean[] locked) {
            boolean wholeRound = mark[set * width + way];
            for (int step = 0; step < width; step++) {
                int passed = hand[set] + step < width ? hand[set] + step : hand[set] + step - width;
                if (passed == way && !wholeRound) {
                    break;
                }
                if (!locked[set * width + passed]) {
                    mark[set * width + passed] = false;
                }
            }
            hand[set] = way + 1 < width ? way + 1 : 0;
        }
    }

    /** Rule 6. */
    static final class TreeRule extends Rule {
        private final int leaves;
        /** Bit i of a set's number is the bit of node i. */
        private final int[] tree;

        TreeRule(int sets, int width) {
            super(width);
            this.leaves = width <= 1 ? 1 : width <= 2 ? 2 : width <= 4 ? 4 : 8;
            this.tree = new int[sets];
        }

        private void pointAway(int set, int way) {
            for (int node = leaves + way; node > 1; node = node / 2) {
                int bit = 1 << node / 2;
                boolean isLeft = node % 2 == 0;
                tree[set] = isLeft ? tree[set] | bit : tree[set] & ~bit;
            }
        }

        @Override
        void use(int set, int way) {
            pointAway(set, way);
        }

        @Override
        void come(int set, int way) {
            pointAway(set, way);
        }

        @Override
        int choose(int set, boolean[] locked) {
            int node = 1;
            while (node < leaves) {
                node = 2 * node + (tree[set] >> node & 1);
            }
            for (int step = 0; step < leaves; step++) {
                int way = (node + step) & (leaves - 1);
                if (way < width && !locked[set * width + way]) {
                    return way;
                }
            }
            return NONE;
        }

        @Override
        void settle(int set, int way, boolean[] locked) {
        }
    }

    /** Rule 7. */
    static final class LatelyRule extends Rule {
        private final boolean[] mark;

        LatelyRule(int sets, int width) {
            super(width);
            this.mark = new boolean[sets * width];
        }

        private void setMark(int set, int way) {
            int first = set * width;
            mark[first + way] = true;
            for (int slot = first; slot < first + width; slot++) {
                if (!mark[slot]) {
                    return;
                }
            }
            for (int slot = first; slot < first + width; slot++) {
                mark[slot] = slot == first + way;
            }
        }

        @Override
        void use(int set, int way) {
            setMark(set, way);
        }

        @Override
        void come(int set, int way) {
            setMark(set, way);
        }

        @Override
        int choose(int set, boolean[] locked) {
            return firstUnmarked(set, 0, mark, locked);
        }

        @Override
        void settle(int set, int way, boolean[] locked) {
        }
    }

    /** Rule 8. */
    static final class AgeRule extends Rule {
        private static final int OLDEST = 3;

        private final int[] age;

        AgeRule(int sets, int width) {
            super(width);
            this.age = new int[sets * width];
        }

        @Override
        void use(int set, int way) {
            age[set * width + way] = 0;
        }

        @Override
        void come(int set, int way) {
            age[set * width + way] = 2;
        }

        @Override
        int choose(int set, boolean[] locked) {
            // All grow older alike, so the first to be of the last age is the oldest one now.
            int best = NONE;
            int first = set * width;
            for (int way = 0; way < width; way++) {
                if (!locked[first + way] && (best == NONE || age[first + way] > age[first + best])) {
                    best = way;
                }
            }
            return best;
        }

        @Override
        void settle(int set, int way, boolean[] locked) {
            int older = OLDEST - age[set * width + way];
            for (int slot = set * width; slot < set * width + width; slot++) {
                if (!locked[slot]) {
                    age[slot] += older;
                }
            }
        }
    }
}
