import java.util.NoSuchElementException;

/** The boundary cases that the sentences of the promises 1 to 16 name: a test each. */
public final class PromiseEdgeTest extends Checks {
    private static final Class<?> NO_ROOM = UnsupportedOperationException.class;
    private static final Class<?> NO_ELEMENT = NoSuchElementException.class;
    private static final int[] FAR = {LEAST, LEAST + 1, -1000, -1, 1000, GREATEST - 1, GREATEST};

    private static int rest(long number, int divisor) {
        return (int) ((number % divisor + divisor) % divisor);
    }

    // Promise 1

    static void p01Sets() {
        about = "promise 1: '2 to the power (sets modulo 5) sets'";
        int[] setCounts = {1, 2, 4, 8, 16};
        for (int sets = -11; sets <= 11; sets++) {
            due("sets of " + sets, new CacheRules(sets, 1, 0, 0).count(12), setCounts[rest(sets, 5)]);
        }
        for (int sets : FAR) {
            due("sets of " + sets, new CacheRules(sets, 1, 0, 0).count(12), setCounts[rest(sets, 5)]);
        }
        due("sets of -1, by hand", new CacheRules(-1, 1, 0, 0).count(12), 16);
        due("sets of 5, by hand", new CacheRules(5, 1, 0, 0).count(12), 1);
    }

    static void p01Ways() {
        about = "promise 1: 'W is 1 + (ways - 1) modulo 8'";
        for (int ways = -17; ways <= 17; ways++) {
            due("ways of " + ways, new CacheRules(0, ways, 0, 0).count(13), 1 + rest(ways - 1, 8));
        }
        for (int ways : FAR) {
            due("ways of " + ways, new CacheRules(0, ways, 0, 0).count(13), 1 + rest(ways - 1L, 8));
        }
        due("ways of 0, by hand", new CacheRules(0, 0, 0, 0).count(13), 8);
        due("ways of 8, by hand", new CacheRules(0, 8, 0, 0).count(13), 8);
        due("ways of 9, by hand", new CacheRules(0, 9, 0, 0).count(13), 1);
        due("ways of the least int, whose ways - 1 is no int", new CacheRules(0, LEAST, 0, 0).count(13), 8);
    }

    /** Answers in which all ten rules differ. */
    private static String signOf(int rule) {
        CacheRules x = new CacheRules(0, 4, rule, 0);
        StringBuilder text = new StringBuilder(reads(x, 0, 1, 2, 3, 0, 2, 0, 4, 5, 4, 1, 6, 3, 2, 7, 4, 0, 5));
        for (int line = 10; line < 22; line++) {
            text.append(x.next(0)).append(x.access(line, 0, false)).append(x.access(line - line % 3, 0, false));
        }
        return text.toString();
    }

    static void p01Rule() {
        about = "promise 1: 'the rule is rule modulo 10'";
        for (int rule = 0; rule < 10; rule++) {
            for (int other = 0; other < rule; other++) {
                due("rules " + other + " and " + rule + " are alike", signOf(rule).equals(signOf(other)), false);
            }
            for (int rounds : new int[] {-2, -1, 1, 2}) {
                due("rule " + (rule + 10 * rounds), signOf(rule + 10 * rounds), signOf(rule));
            }
        }
        for (int rule : FAR) {
            due("rule " + rule, signOf(rule), signOf(rest(rule, 10)));
        }
        due("rule -1, by hand", signOf(-1), signOf(9));
    }

    private static int roomOf(int victims) {
        CacheRules x = new CacheRules(0, 1, 0, victims);
        reads(x, 1, 2, 3, 4, 5, 6, 7, 8);
        return x.count(9);
    }

    static void p01Victims() {
        about = "promise 1: 'V is victims modulo 5 (rests not below 0)'";
        for (int victims = -11; victims <= 11; victims++) {
            due("rows of " + victims, roomOf(victims), rest(victims, 5));
        }
        for (int victims : FAR) {
            due("rows of " + victims, roomOf(victims), rest(victims, 5));
        }
        due("rows of -1, by hand", roomOf(-1), 4);
        due("rows of 5, by hand", roomOf(5), 0);
    }

    static void p01NoLines() {
        about = "promise 1: 'No lines'";
        CacheRules x = new CacheRules(1, 3, 0, 4);
        for (int set = 0; set < 2; set++) {
            for (int way = 0; way < 3; way++) {
                due("way " + way + " of set " + set, wayOf(x, set, way), "0:0:0:0:0");
            }
        }
        due("counts", counts(x), "0 0 0 0 0 0 0 0 0 0 0 0 2 3");
        due("line 0 is nowhere", x.drop(0), NONE);
        dueThrow("no row", BAD_INDEX, () -> x.caught(0, 0));
        due("no access", x.distance(0), NONE);
        dueThrow("no ask", NO_ELEMENT, () -> x.answer());
        due("the largest", new CacheRules(4, 8, 0, 4).way(15, 7, 1), 0);
    }

    static void p01Writing() {
        about = "promise 1: 'writing does not go through, and places.'";
        CacheRules x = new CacheRules(0, 1, 0, 0);
        due("a miss that writes", x.access(1, 0, true), 3);
        due("it places and changes", wayOf(x, 0, 0), "1:1:1:1:0");
        due("and writes nothing", x.count(7), 0);
        due("as mode says", x.mode(true, false), 2);
    }

    // Promise 2

    static void p02Mode() {
        about = "promise 2: 'what it was (1 through, 2 places, 3 both, 0 neither).'";
        CacheRules x = new CacheRules(0, 1, 0, 0);
        int was = 2;
        for (int from = 0; from < 4; from++) {
            for (int to = 0; to < 4; to++) {
                due("to " + from, x.mode((from & 1) == 1, (from & 2) == 2), was);
                due("from " + from + " to " + to, x.mode((to & 1) == 1, (to & 2) == 2), from);
                was = to;
            }
        }
    }

    static void p02FromNowOn() {
        about = "promise 2: 'Whether writing goes through, and whether it places, from now on'";
        CacheRules x = new CacheRules(0, 1, 0, 0);
        x.access(1, 0, true);
        x.mode(true, false);
        due("what was changed stays so", wayOf(x, 0, 0), "1:1:1:1:0");
        due("nothing is written for it", x.count(7), 0);
        x.access(1, 1, true);
        due("then it goes through", x.count(7), 1);
        due("and does not place", x.access(2, 0, true), 3);
        due("way", linesOf(x, 0), "1");
        x.mode(false, true);
        due("then it places again", x.access(2, 0, true), 3);
        due("way then", wayOf(x, 0, 0), "2:1:1:1:0");
    }

    // Promise 3

    static void p03KindsAreCounted() {
        about = "promise 3: 'An access: 0 to 4 as told.'";
        CacheRules x = new CacheRules(0, 1, 0, 1);
        due("a miss", x.access(1, 0, false), 3);
        due("a hit", x.access(1, 0, false), 0);
        due("a part", x.access(1, 1, false), 1);
        due("a miss", x.access(2, 0, false), 3);
        due("a caught one", x.access(1, 0, false), 2);
        x.lock(1, true);
        due("passed by", x.access(3, 0, false), 4);
        due("each of its kind", counts(x), "6 1 1 1 2 1 4 0 2 1 0 0 1 1");
    }

    static void p03Refused() {
        about = "promise 3: 'throws IndexOutOfBoundsException'";
        CacheRules x = new CacheRules(0, 2, 5, 1);
        reads(x, 1, 2, 3);
        dueRefused("a hit's line, part 4", BAD_INDEX, x, () -> x.access(2, 4, true));
        dueRefused("a caught line, part -1", BAD_INDEX, x, () -> x.access(1, -1, false));
        dueRefused("a line that is nowhere", BAD_INDEX, x, () -> x.access(7, GREATEST, true));
    }

    // Promise 4

    static void p04AHit() {
        about = "promise 4: '0, when it would be a hit (it is accessed then)'";
        CacheRules x = new CacheRules(0, 2, 0, 0);
        reads(x, 1, 2);
        due("a hit", x.ask(1, 0), 0);
        due("accessed", counts(x), "3 1 0 0 2 0 2 0 0 0 0 0 1 2");
        due("the rule was told", x.next(0), 1);
        due("its distance is noted", x.distance(1), 0);
        due("nothing waits", x.count(10), 0);
        dueThrow("nothing was answered", BAD_INDEX, () -> x.answered(0, 0));
    }

    static void p04NoHit() {
        about = "promise 4: 'else it waits'";
        CacheRules x = new CacheRules(0, 1, 0, 1);
        reads(x, 1, 2);
        String before = counts(x);
        due("a part that is not there", x.ask(2, 1), 1);
        due("a caught line, though its part is there", x.ask(1, 0), 1);
        due("a line that is nowhere", x.ask(3, 0), 1);
        due("nothing is accessed", counts(x), before.replace("1 0 0 1 1", "1 3 3 1 1"));
        due("nor placed", linesOf(x, 0) + ", " + caughtLines(x), "2, 1:1:0");
        due("line 2 now has", x.way(0, 0, 2), 1);
        due("nor noted", x.distance(3), NONE);
    }

    static void p04FirstOrWithOthers() {
        about = "promise 4: '1 as the first one of its line, 2 with others.'";
        CacheRules x = new CacheRules(0, 4, 0, 0);
        due("the first", x.ask(1, 0), 1);
        due("another part", x.ask(1, 1), 2);
        due("the same part", x.ask(1, 0), 2);
        due("another line", x.ask(2, 0), 1);
        due("the line before", x.ask(1, 2), 2);
        x.answer();
        due("the first again, as all were answered", x.ask(1, 3), 1);
        due("of a line that waits still", x.ask(2, 1), 2);
    }

    static void p04HitOfALineThatWaits() {
        about = "promise 4: '0, when it would be a hit', though its line waits";
        CacheRules x = new CacheRules(0, 1, 0, 0);
        due("waits", x.ask(1, 0), 1);
        reads(x, 1);
        due("now it is a hit", x.ask(1, 0), 0);
        due("the one before waits still", x.count(10), 1);
        due("and is answered", x.answer(), 1);
        due("as a hit", x.answered(0, 1), 0);
    }

    static void p04SixteenAsks() {
        about = "promise 4: 'UnsupportedOperationException, when there are 16 asks'";
        CacheRules x = new CacheRules(0, 1, 0, 0);
        for (int k = 0; k < 15; k++) {
            x.ask(k % 3, 0);
        }
        due("the sixteenth, of a fourth line", x.ask(3, 0), 1);
        dueRefused("of a line that waits", NO_ROOM, x, () -> x.ask(0, 1));
        dueThrow("of a line that does not", NO_ROOM, () -> x.ask(9, 1));
        due("the first line", x.answer(), 5);
        due("eleven wait", x.count(10), 11);
        due("there is room again", x.ask(1, 1), 2);
    }

    static void p04AHitNeedsNoRoom() {
        about = "promise 4: '0, when it would be a hit .. else it waits', with 16 asks or 4 lines";
        CacheRules x = new CacheRules(0, 1, 0, 0);
        reads(x, 9);
        for (int line = 0; line < 4; line++) {
            x.ask(line, 0);
        }
        due("beside four lines", x.ask(9, 0), 0);
        for (int k = 0; k < 12; k++) {
            x.ask(0, 1);
        }
        due("asks", x.count(10), 16);
        due("beside sixteen asks", x.ask(9, 0), 0);
        dueThrow("another part of it has none", NO_ROOM, () -> x.ask(9, 1));
    }

    static void p04FifthLine() {
        about = "promise 4: 'or it would be a fifth line.'";
        CacheRules x = new CacheRules(0, 1, 0, 0);
        for (int line : new int[] {LEAST, -1, 0, GREATEST}) {
            due("line " + line, x.ask(line, 3), 1);
        }
        dueRefused("a fifth", NO_ROOM, x, () -> x.ask(1, 3));
        due("one of the four", x.ask(-1, 3), 2);
        x.answer();
        due("a fourth again", x.ask(1, 3), 1);
        dueThrow("the one that was answered is a fifth now", NO_ROOM, () -> x.ask(LEAST, 0));
    }

    // Promise 5

    static void p05InTheirOrder() {
        about = "promise 5: 'its asks are accessed, reading, in their order: how many.'";
        CacheRules x = new CacheRules(0, 1, 0, 0);
        for (int part : new int[] {3, 0, 3, 1, 0, 2}) {
            x.ask(5, part);
        }
        due("all six", x.answer(), 6);
        StringBuilder got = new StringBuilder();
        for (int k = 0; k < 6; k++) {
            got.append(x.answered(k, 0)).append(x.answered(k, 1)).append(' ');
        }
        due("part and kind of each", got.toString(), "33 01 30 11 00 21 ");
        due("counts", counts(x), "6 2 3 0 1 0 4 0 0 0 0 0 1 1");
        due("the way", wayOf(x, 0, 0), "5:1:15:0:0");
    }

    static void p05OneLineAlone() {
        about = "promise 5: 'The line that waits longest is answered'";
        CacheRules x = new CacheRules(0, 4, 0, 0);
        x.ask(1, 0);
        x.ask(2, 0);
        x.ask(2, 1);
        x.ask(1, 1);
        x.ask(3, 0);
        due("line 1", x.answer(), 2);
        due("three wait, of two lines", x.count(10) + " " + x.count(11), "3 2");
        due("line 2", x.answer(), 2);
        due("one waits", x.count(10) + " " + x.count(11), "1 1");
        due("line 3", x.answer(), 1);
        due("none waits", x.count(10) + " " + x.count(11), "0 0");
        due("ways", linesOf(x, 0), "1 2 3 -");
    }

    static void p05PassedByEachTime() {
        about = "promise 5: 'its asks are accessed', when the line cannot be placed";
        CacheRules x = new CacheRules(0, 1, 0, 0);
        reads(x, 1);
        lockAll(x, 1);
        x.ask(2, 0);
        x.ask(2, 0);
        due("both", x.answer(), 2);
        due("passed by", x.answered(0, 1) + " " + x.answered(1, 1), "4 4");
        due("fetched each time", x.count(6), 3);
    }

    static void p05NoneWaits() {
        about = "promise 5: 'NoSuchElementException, when none waits.'";
        CacheRules x = new CacheRules(0, 1, 0, 0);
        dueRefused("a new object", NO_ELEMENT, x, () -> x.answer());
        x.ask(1, 0);
        x.answer();
        dueRefused("all were answered", NO_ELEMENT, x, () -> x.answer());
        x.ask(1, 0);
        dueRefused("a hit does not wait", NO_ELEMENT, x, () -> x.answer());
    }

    // Promise 6

    static void p06None() {
        about = "promise 6: 'IndexOutOfBoundsException, when there is none'";
        CacheRules x = new CacheRules(0, 1, 0, 0);
        dueThrow("a new object", BAD_INDEX, () -> x.answered(0, 0));
        for (int k = 0; k < 16; k++) {
            x.ask(1, k % 4);
        }
        dueThrow("asked, not answered", BAD_INDEX, () -> x.answered(0, 0));
        x.answer();
        due("the first", x.answered(0, 0), 0);
        due("the last of sixteen", x.answered(15, 0), 3);
        for (int k : new int[] {-1, 16, 17, LEAST, GREATEST}) {
            dueThrow("the ask " + k, BAD_INDEX, () -> x.answered(k, 0));
            dueThrow("how ask " + k + " was", BAD_INDEX, () -> x.answered(k, 1));
        }
    }

    static void p06AnotherWhat() {
        about = "promise 6: 'or for another what.'";
        CacheRules x = new CacheRules(0, 1, 0, 0);
        x.ask(1, 2);
        x.answer();
        due("its part", x.answered(0, 0), 2);
        due("how it was", x.answered(0, 1), 3);
        for (int what : new int[] {-1, 2, 3, LEAST, GREATEST}) {
            dueThrow("what " + what, BAD_INDEX, () -> x.answered(0, what));
        }
    }

    static void p06AnsweredLast() {
        about = "promise 6: 'Of the k-th ask that was answered last'";
        CacheRules x = new CacheRules(0, 2, 0, 0);
        x.ask(1, 0);
        x.ask(1, 1);
        x.ask(2, 3);
        x.answer();
        due("two of line 1", x.answered(1, 0), 1);
        x.ask(1, 2);
        x.ask(1, 0);
        x.access(1, 3, true);
        due("neither asks nor accesses change it", x.answered(0, 0) + " " + x.answered(1, 0), "0 1");
        x.answer();
        due("line 2", x.answered(0, 0) + " " + x.answered(0, 1), "3 3");
        dueThrow("one ask alone", BAD_INDEX, () -> x.answered(1, 0));
        x.answer();
        dueThrow("none waits", NO_ELEMENT, () -> x.answer());
        due("what was answered last stays", x.answered(0, 0), 2);
    }

    // Promise 7

    static void p07ThatIsNew() {
        about = "promise 7: 'whether a way has it, and that is new.'";
        CacheRules x = new CacheRules(0, 2, 0, 1);
        due("nowhere", x.lock(0, true), false);
        due("nowhere, free", x.lock(0, false), false);
        reads(x, 1, 2, 3);
        due("a caught line", x.lock(1, true), false);
        due("free already", x.lock(3, false), false);
        due("locked", x.lock(3, true), true);
        due("locked already", x.lock(3, true), false);
        due("still locked", x.way(0, 0, 4), 1);
        due("free", x.lock(3, false), true);
        due("free again", x.lock(3, false), false);
        due("not locked", x.way(0, 0, 4), 0);
        due("no access", x.count(0), 3);
    }

    static void p07OfTheWay() {
        about = "promise 7: 'The way of a line is locked, or free'";
        CacheRules x = new CacheRules(1, 2, 0, 0);
        reads(x, 0, 1, 2, 3);
        due("line 3", x.lock(3, true), true);
        due("its way alone", "" + x.way(0, 0, 4) + x.way(0, 1, 4) + x.way(1, 0, 4) + x.way(1, 1, 4), "0001");
        due("set 1: line 1 goes", reads(x, 5, 7), "33");
        due("set 1", linesOf(x, 1), "7 3");
        due("what goes out and comes back is not locked", reads(x, 5) + x.way(1, 0, 4), "30");
    }

    // Promise 8

    static void p08WhereverItIs() {
        about = "promise 8: 'Changed parts of a line, wherever it is, are written (a write each) and not changed any more: how many.'";
        for (int parts = 0; parts <= 4; parts++) {
            CacheRules x = new CacheRules(0, 1, 0, 1);
            x.access(1, 0, false);
            for (int part = 0; part < parts; part++) {
                x.access(1, part, true);
            }
            int there = x.way(0, 0, 2);
            x.access(2, 3, true);
            due("in the rows", x.clean(1), parts);
            due("there, not changed", caughtLines(x), "1:" + there + ":0");
            due("in a way", x.clean(2), 1);
            due("there too", wayOf(x, 0, 0), "2:1:8:0:0");
            due("a write each", x.count(7), parts + 1);
            due("none any more", x.clean(1) + x.clean(2), 0);
            reads(x, 3, 4);
            due("nothing is written when they go out", x.count(7), parts + 1);
        }
    }

    static void p08Nowhere() {
        about = "promise 8: 'wherever it is', of a line that is nowhere";
        CacheRules x = new CacheRules(0, 2, 0, 1);
        due("of a new object", x.clean(0), 0);
        writes(x, 1, 0);
        due("another line", x.clean(0), 0);
        due("stays changed", wayOf(x, 0, 0), "1:1:1:1:0");
        lockAll(x, 1);
        due("a locked one", x.clean(1), 1);
        due("stays locked", wayOf(x, 0, 0), "1:1:1:0:1");
    }

    // Promise 9

    static void p09AllLines() {
        about = "promise 9: 'As clean() for all lines.'";
        CacheRules none = new CacheRules(4, 8, 0, 4);
        due("no lines", none.cleanAll(), 0);
        CacheRules x = new CacheRules(1, 2, 0, 4);
        for (int line = 0; line < 8; line++) {
            writes(x, line, 0, 3);
        }
        lockAll(x, 7);
        due("four in ways, four in rows, two parts each", x.cleanAll(), 16);
        due("a write each", x.count(7), 16);
        for (int way = 0; way < 2; way++) {
            due("none changed", x.way(0, way, 3) + x.way(1, way, 3), 0);
        }
        due("none changed in the rows", caughtLines(x), "0:9:0 1:9:0 2:9:0 3:9:0");
        due("none again", x.cleanAll(), 0);
        due("no write more", x.count(7), 16);
    }

    static void p09FirstAndLast() {
        about = "promise 9: 'As clean() for all lines.', the last way of the last set";
        CacheRules x = new CacheRules(4, 8, 0, 0);
        for (int k = 0; k < 8; k++) {
            x.access(15 + 16 * k, 1, k == 7);
        }
        writes(x, 0, 0, 1, 2, 3);
        due("five parts", x.cleanAll(), 5);
        due("the last way", x.way(15, 7, 3), 0);
        due("the first way", x.way(0, 0, 3), 0);
    }

    // Promise 10

    static void p10Nowhere() {
        about = "promise 10: 'NONE when it is nowhere.'";
        CacheRules x = new CacheRules(0, 1, 0, 1);
        due("a new object, line 0", x.drop(0), NONE);
        reads(x, 1, 2, 3);
        due("gone out of all", x.drop(1), NONE);
        due("unchanged in the rows", x.drop(2), 0);
        due("unchanged in a way", x.drop(3), 0);
        due("dropped", x.drop(3), NONE);
        due("dropped too", x.drop(2), NONE);
    }

    static void p10OutOfItsWay() {
        about = "promise 10: 'A line goes out of its way (which is not locked then)'";
        CacheRules x = new CacheRules(0, 2, 0, 1);
        writes(x, 1, 0, 1, 2, 3);
        reads(x, 2);
        lockAll(x, 1, 2);
        due("four changed parts", x.drop(1), 4);
        due("nothing is left of it", wayOf(x, 0, 0), "0:0:0:0:0");
        due("the other stays locked", wayOf(x, 0, 1), "2:1:1:0:1");
        due("it is not caught", x.count(9), 0);
        due("a new line comes there", reads(x, 3), "3");
        due("and is not locked", wayOf(x, 0, 0), "3:1:1:0:0");
    }

    static void p10OutOfTheRows() {
        about = "promise 10: 'or of the catching rows'";
        int[][] left = {{2, 3}, {1, 3}, {1, 2}};
        for (int dropped = 1; dropped <= 3; dropped++) {
            CacheRules x = new CacheRules(0, 1, 0, 3);
            writes(x, 1, 0);
            writes(x, 2, 0, 1);
            writes(x, 3, 0, 1, 2);
            reads(x, 4);
            due("line " + dropped, x.drop(dropped), dropped);
            due("two rows", x.count(9), 2);
            due("in their order", x.caught(0, 0) + " " + x.caught(1, 0),
                left[dropped - 1][0] + " " + left[dropped - 1][1]);
            due("with their parts", x.caught(0, 2) + " " + x.caught(1, 2),
                ((1 << left[dropped - 1][0]) - 1) + " " + ((1 << left[dropped - 1][1]) - 1));
            dueThrow("no third", BAD_INDEX, () -> x.caught(2, 0));
            due("a miss", x.access(dropped, 0, false), 3);
        }
    }

    static void p10WithoutWriting() {
        about = "promise 10: 'without writing'";
        CacheRules x = new CacheRules(0, 1, 0, 1);
        writes(x, 1, 0, 1);
        writes(x, 2, 0);
        due("of the rows", x.drop(1), 2);
        due("of a way", x.drop(2), 1);
        due("no writes, nothing by the rule but once", counts(x), "3 0 1 0 2 0 3 0 1 0 0 0 1 1");
        due("distances stay", x.distance(1) + " " + x.distance(2), "1 0");
    }

    static void p10RuleStays() {
        about = "promise 10: '(What its way had of the rule's stays as it is.)'";
        CacheRules tree = full(6, 4);
        reads(tree, 2);
        tree.drop(1);
        reads(tree, 9);
        due("the tree still points from 2 to 3", tree.next(0), 3);
        CacheRules kept = full(7, 3);
        reads(kept, 0);
        kept.drop(0);
        kept.access(1, 1, false);
        reads(kept, 9);
        due("way 0 had its mark still: all were marked with way 1, which alone kept it", kept.next(0), 2);
        CacheRules notSet = full(7, 3);
        reads(notSet, 0);
        notSet.drop(1);
        reads(notSet, 0, 9);
        due("way 1 had no mark still: all were marked with line 9, which alone kept it", notSet.next(0), 0);
        CacheRules round = full(5, 3);
        reads(round, 5);
        round.drop(5);
        reads(round, 6);
        due("the hand stays", round.next(0), 1);
    }

    // Promise 11

    static void p11NoSuchWay() {
        about = "promise 11: 'IndexOutOfBoundsException, when there is none'";
        for (int k = 0; k < 5; k++) {
            int sets = 1 << k;
            int ways = 2 * k + 1 > 8 ? 8 : 2 * k + 1;
            CacheRules x = new CacheRules(k, ways, 0, 0);
            due("the last way of the last set", x.way(sets - 1, ways - 1, 1), 0);
            for (int set : new int[] {-1, sets, sets + 1, LEAST, GREATEST}) {
                dueThrow("set " + set + " of " + sets, BAD_INDEX, () -> x.way(set, 0, 0));
            }
            for (int way : new int[] {-1, ways, ways + 1, LEAST, GREATEST}) {
                dueThrow("way " + way + " of " + ways, BAD_INDEX, () -> x.way(0, way, 0));
            }
            dueThrow("neither", BAD_INDEX, () -> x.way(-1, -1, -1));
            // A way too many of one set is no way of the next one.
            dueThrow("set 0, a way of set 1", BAD_INDEX, () -> x.way(0, ways, 4));
            dueThrow("set 1, a way of set 0", BAD_INDEX, () -> x.way(1, -1, 4));
        }
    }

    static void p11AnotherWhat() {
        about = "promise 11: 'or for another what.'";
        CacheRules x = new CacheRules(0, 1, 0, 0);
        for (int what : new int[] {-1, 5, 6, LEAST, GREATEST}) {
            dueThrow("without a line, what " + what, BAD_INDEX, () -> x.way(0, 0, what));
        }
        reads(x, 1);
        for (int what : new int[] {-1, 5, LEAST, GREATEST}) {
            dueThrow("with a line, what " + what, BAD_INDEX, () -> x.way(0, 0, what));
        }
    }

    static void p11WithoutOne() {
        about = "promise 11: 'its line (what 0; 0 without one), whether it has one (1)'";
        CacheRules x = new CacheRules(0, 2, 0, 0);
        due("never had one", wayOf(x, 0, 1), "0:0:0:0:0");
        reads(x, 7, 0);
        due("line 0", wayOf(x, 0, 1), "0:1:1:0:0");
        x.drop(7);
        due("had one", wayOf(x, 0, 0), "0:0:0:0:0");
        reads(x, NONE);
        due("line -1 is a line", wayOf(x, 0, 0), "-1:1:1:0:0");
    }

    static void p11ABitEach() {
        about = "promise 11: 'which parts are there (2) and changed (3), a bit each, whether it is locked (4).'";
        for (int bits = 1; bits < 16; bits++) {
            CacheRules x = new CacheRules(0, 1, 0, 0);
            for (int part = 0; part < 4; part++) {
                if ((bits >> part & 1) == 1) {
                    x.access(3, part, false);
                }
            }
            due("there", x.way(0, 0, 2), bits);
            for (int part = 0; part < 4; part++) {
                if ((bits >> part & 1) == 1) {
                    x.access(3, part, true);
                }
            }
            due("changed", x.way(0, 0, 3), bits);
            due("not locked", x.way(0, 0, 4), 0);
            x.lock(3, true);
            due("locked", x.way(0, 0, 4), 1);
        }
    }

    // Promise 12

    static void p12NoSuchRow() {
        about = "promise 12: 'IndexOutOfBoundsException, when there is none'";
        for (int room = 0; room <= 4; room++) {
            CacheRules x = new CacheRules(0, 1, 0, room);
            for (int line = 1; line <= 6; line++) {
                int held = Math.max(0, Math.min(line - 2, room));
                for (int k : new int[] {-1, held, held + 1, LEAST, GREATEST}) {
                    dueThrow("row " + k + " of " + held, BAD_INDEX, () -> x.caught(k, 0));
                }
                for (int k = 0; k < held; k++) {
                    due("row " + k, x.caught(k, 0), line - 1 - held + k);
                }
                x.access(line, 0, false);
            }
        }
    }

    static void p12AnotherWhat() {
        about = "promise 12: 'or for another what.'";
        CacheRules x = new CacheRules(0, 1, 0, 1);
        x.access(-5, 1, true);
        x.access(-5, 2, false);
        reads(x, 1);
        due("line", x.caught(0, 0), -5);
        due("there", x.caught(0, 1), 6);
        due("changed", x.caught(0, 2), 2);
        for (int what : new int[] {-1, 3, 4, LEAST, GREATEST}) {
            dueThrow("what " + what, BAD_INDEX, () -> x.caught(0, what));
        }
    }

    // Promise 13

    static void p13SomeWayHasNoLine() {
        about = "promise 13: 'NONE when .. some way has no line.'";
        for (int rule = 0; rule < 10; rule++) {
            for (int empty = 0; empty < 3; empty++) {
                CacheRules x = new CacheRules(0, 3, rule, 0);
                for (int line = 0; line < 3; line++) {
                    due("rule " + rule + ", not full", x.next(0), NONE);
                    x.access(line, 0, false);
                }
                due("rule " + rule + ", full", x.next(0) != NONE, true);
                x.drop(empty);
                due("rule " + rule + ", way " + empty + " has none", x.next(0), NONE);
            }
        }
    }

    static void p13AllLocked() {
        about = "promise 13: 'NONE when all are locked'";
        for (int rule = 0; rule < 10; rule++) {
            for (int width = 1; width <= 8; width++) {
                CacheRules x = full(rule, width);
                for (int line = 0; line < width; line++) {
                    due("rule " + rule + ", one is free", x.next(0) != NONE, true);
                    lockAll(x, line);
                }
                due("rule " + rule + ", all locked", x.next(0), NONE);
                x.lock(width - 1, false);
                due("rule " + rule + ", the last is free", x.next(0), width - 1);
            }
        }
    }

    static void p13NothingIsChangedByAsking() {
        about = "promise 13: '(nothing is changed by asking; of rule 5 as far as it would go)'";
        for (int rule = 0; rule < 10; rule++) {
            CacheRules asked = full(rule, 4);
            CacheRules notAsked = full(rule, 4);
            for (int line : new int[] {0, 2, 1, 3, 10, 2, 11, 12, 3, 13, 14, 0, 15}) {
                int told = asked.next(0);
                due("rule " + rule + ", again", asked.next(0), told);
                asked.next(0);
                due("rule " + rule + ", access " + line, asked.access(line, 0, false), notAsked.access(line, 0, false));
                due("rule " + rule + ", the ways", linesOf(asked, 0), linesOf(notAsked, 0));
            }
        }
        CacheRules round = full(5, 3);
        reads(round, 0, 1, 2);
        due("all marked: as far as a whole round", round.next(0), 0);
        reads(round, 9);
        due("what was told goes out", linesOf(round, 0), "9 1 2");
    }

    static void p13NoSuchSet() {
        about = "promise 13: 'IndexOutOfBoundsException, when there is no such set.'";
        for (int k = 0; k < 5; k++) {
            int sets = 1 << k;
            CacheRules x = new CacheRules(k, 1, 0, 0);
            reads(x, sets - 1);
            due("the last set", x.next(sets - 1), 0);
            for (int set : new int[] {-1, sets, sets + 1, LEAST, GREATEST}) {
                dueThrow("set " + set + " of " + sets, BAD_INDEX, () -> x.next(set));
            }
        }
    }

    // Promise 14

    static void p14NorMore() {
        about = "promise 14: 'How many accesses so far had a distance of n or more, or none'";
        CacheRules x = new CacheRules(0, 1, 0, 0);
        due("none so far", x.misses(1) + x.misses(64), 0);
        // The first access of each line has none; the last one of each round has the distance of the round.
        for (int distance = 0; distance <= 20; distance++) {
            for (int k = 0; k <= distance; k++) {
                x.access(100 * distance + k, 0, false);
            }
            x.access(100 * distance, 0, false);
        }
        int firsts = 21 * 22 / 2;
        for (int n = 1; n <= 64; n++) {
            due("misses of " + n, x.misses(n), firsts + Math.max(0, 21 - n));
        }
    }

    static void p14TheLast() {
        about = "promise 14: 'a store of n lines (1 .. 64) in one set'";
        CacheRules x = new CacheRules(0, 1, 0, 0);
        for (int round = 0; round < 3; round++) {
            for (int line = 0; line < 64; line++) {
                x.access(line, 0, false);
            }
        }
        due("64 lines fit into 64", x.misses(64), 64);
        due("and never into 63", x.misses(63), 192);
        due("nor into 1", x.misses(1), 192);
        CacheRules more = new CacheRules(0, 1, 0, 0);
        for (int round = 0; round < 3; round++) {
            for (int line = 0; line < 65; line++) {
                more.access(line, 0, false);
            }
        }
        due("65 lines do not fit into 64", more.misses(64), 195);
    }

    static void p14AsAStoreByRule0() {
        about = "promise 14: 'a store of n lines .. by rule 0, would have missed so often.'";
        CacheRules[] stores = new CacheRules[9];
        for (int n = 1; n <= 8; n++) {
            stores[n] = new CacheRules(0, n, 0, 0);
        }
        int line = 1;
        for (int k = 0; k < 300; k++) {
            line = (line * 37 + k) % 23 % (3 + k % 9);
            for (int n = 1; n <= 8; n++) {
                stores[n].access(line, 0, false);
            }
        }
        for (int n = 1; n <= 8; n++) {
            due("a store of " + n, stores[1].misses(n), stores[n].count(4));
        }
    }

    static void p14NoneOfThese() {
        about = "promise 14: 'IllegalArgumentException, when n is none of these.'";
        CacheRules x = new CacheRules(0, 1, 0, 0);
        due("1", x.misses(1), 0);
        due("64", x.misses(64), 0);
        for (int n : new int[] {0, -1, 65, 66, LEAST, GREATEST}) {
            dueThrow("" + n, IllegalArgumentException.class, () -> x.misses(n));
        }
    }

    // Promise 15

    static void p15WouldHaveNow() {
        about = "promise 15: 'The distance that an access of a line would have now.'";
        CacheRules x = new CacheRules(0, 1, 0, 0);
        due("a new object", x.distance(0), NONE);
        reads(x, 1, 2, 3);
        due("asking does not move it", x.distance(1) + " " + x.distance(1) + " " + x.distance(3), "2 2 0");
        due("asking is no access", x.count(0), 3);
        due("nor noted", x.distance(4) + " " + x.distance(4), NONE + " " + NONE);
        x.drop(1);
        x.drop(3);
        x.lock(3, true);
        x.clean(2);
        due("dropped lines were accessed", x.distance(1) + " " + x.distance(3), "2 0");
        due("the least int", x.distance(LEAST), NONE);
        reads(x, LEAST);
        due("the least int, accessed", x.distance(LEAST), 0);
    }

    static void p15SixtyFour() {
        about = "promise 15: 'The distance', of the 64th and 65th";
        CacheRules x = new CacheRules(4, 8, 0, 4);
        for (int line = 0; line < 64; line++) {
            x.access(line, 0, false);
        }
        for (int line = 0; line < 64; line++) {
            due("line " + line, x.distance(line), 63 - line);
        }
        x.access(64, 0, false);
        due("the first fell out", x.distance(0), NONE);
        due("though its way has it", x.access(0, 0, false), 0);
        due("then the next one fell out", x.distance(1), NONE);
    }

    // Promise 16

    static void p16AnotherWhat() {
        about = "promise 16: 'NONE for another what.'";
        CacheRules x = new CacheRules(0, 1, 0, 0);
        reads(x, 1);
        for (int what : new int[] {-1, -2, 14, 15, LEAST, GREATEST}) {
            due("count(" + what + ")", x.count(what), NONE);
        }
        due("the first", x.count(0), 1);
        due("the last", x.count(13), 1);
    }

    static void p16EachOne() {
        about = "promise 16: 'Accesses (0) of each kind (1 to 5: kinds 0 to 4), parts fetched (6), writes (7)'";
        CacheRules x = new CacheRules(1, 1, 0, 2);
        due("miss", x.access(1, 0, true), 3);
        due("counts", counts(x), "1 0 0 0 1 0 1 0 0 0 0 0 2 1");
        due("hit", x.access(1, 0, true), 0);
        due("counts", counts(x), "2 1 0 0 1 0 1 0 0 0 0 0 2 1");
        due("part", x.access(1, 1, false), 1);
        due("counts", counts(x), "3 1 1 0 1 0 2 0 0 0 0 0 2 1");
        due("miss", x.access(3, 1, false), 3);
        due("counts", counts(x), "4 1 1 0 2 0 3 0 1 1 0 0 2 1");
        due("caught", x.access(1, 2, false), 2);
        due("counts", counts(x), "5 1 1 1 2 0 4 0 2 1 0 0 2 1");
        lockAll(x, 1);
        due("passed by", x.access(5, 2, false), 4);
        due("counts", counts(x), "6 1 1 1 2 1 5 0 2 1 0 0 2 1");
        due("waits", x.ask(5, 0), 1);
        due("waits too", x.ask(5, 1), 2);
        due("counts", counts(x), "6 1 1 1 2 1 5 0 2 1 2 1 2 1");
        due("cleaned", x.cleanAll(), 1);
        due("counts", counts(x), "6 1 1 1 2 1 5 1 2 1 2 1 2 1");
        due("answered", x.answer(), 2);
        due("counts", counts(x), "8 1 1 1 2 3 7 1 2 1 0 0 2 1");
    }

    static void p16AsksThatWait() {
        about = "promise 16: 'asks that wait (10), lines of these (11), sets (12), ways (13).'";
        CacheRules x = new CacheRules(4, 8, 0, 0);
        for (int k = 0; k < 16; k++) {
            x.ask(k % 4, k / 4);
        }
        due("all that there can be", x.count(10) + " " + x.count(11) + " " + x.count(12) + " " + x.count(13), "16 4 16 8");
        for (int left = 3; left >= 0; left--) {
            x.answer();
            due("left", x.count(10) + " " + x.count(11), 4 * left + " " + left);
        }
        CacheRules least = new CacheRules(0, 1, 0, 0);
        due("the least", least.count(10) + " " + least.count(11) + " " + least.count(12) + " " + least.count(13), "0 0 1 1");
    }

    static void p16ByTheRule() {
        about = "promise 16: 'lines that went out of ways by the rule (8), caught now (9)'";
        CacheRules x = new CacheRules(0, 2, 0, 1);
        reads(x, 1, 2);
        due("none yet", x.count(8) + " " + x.count(9), "0 0");
        reads(x, 3);
        due("one", x.count(8) + " " + x.count(9), "1 1");
        reads(x, 4);
        due("two, one of them caught now", x.count(8) + " " + x.count(9), "2 1");
        x.drop(3);
        due("a dropped one is not by the rule", x.count(8) + " " + x.count(9), "2 1");
        reads(x, 2);
        due("a way without a line: none goes out", x.count(8) + " " + x.count(9), "2 0");
        reads(x, 3);
        due("three", x.count(8) + " " + x.count(9), "3 1");
        x.drop(x.caught(0, 0));
        due("none caught", x.count(8) + " " + x.count(9), "3 0");
    }

    public static void main(String[] args) {
        runAll(PromiseEdgeTest.class);
    }
}
