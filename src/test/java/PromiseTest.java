import java.util.NoSuchElementException;

/** Each promise of the document by hand: ordinary inputs, the edges it names, and wrong inputs. */
public final class PromiseTest extends Checks {
    private static void newObject() {
        about = "promise 1";
        int[] setCounts = {1, 2, 4, 8, 16};
        for (int k = -10; k < 15; k++) {
            CacheRules x = new CacheRules(k, k, k, k);
            due("sets of " + k, x.count(12), setCounts[Math.floorMod(k, 5)]);
            due("ways of " + k, x.count(13), 1 + Math.floorMod(k - 1, 8));
        }
        due("ways of the least int", new CacheRules(0, LEAST, 0, 0).count(13), 8);
        due("ways of the greatest int", new CacheRules(0, GREATEST, 0, 0).count(13), 7);
        due("sets of the least int", new CacheRules(LEAST, 1, 0, 0).count(12), 4);
        for (int victims = -5; victims < 10; victims++) {
            CacheRules x = new CacheRules(0, 1, 0, victims);
            reads(x, 1, 2, 3, 4, 5, 6, 7);
            due("rows of " + victims, x.count(9), Math.floorMod(victims, 5));
        }
        CacheRules rule2 = new CacheRules(0, 2, -8, 0);
        reads(rule2, 1, 2, 3);
        due("rule -8 is rule 2", linesOf(rule2, 0), "1 3");
        CacheRules fresh = new CacheRules(1, 3, 0, 2);
        due("counts of a new object", counts(fresh), "0 0 0 0 0 0 0 0 0 0 0 0 2 3");
        due("set 0", linesOf(fresh, 0), "- - -");
        due("set 1", linesOf(fresh, 1), "- - -");
        due("mode", fresh.mode(false, true), 2);
    }

    private static void mode() {
        about = "promise 2";
        CacheRules x = new CacheRules(0, 1, 0, 0);
        due("mode(true, true)", x.mode(true, true), 2);
        due("mode(true, false)", x.mode(true, false), 3);
        due("mode(false, false)", x.mode(false, false), 1);
        due("mode(false, true)", x.mode(false, true), 0);
        due("mode again", x.mode(false, true), 2);
        due("no calls counted", x.count(0), 0);
    }

    private static void accessKinds() {
        about = "promise 3";
        CacheRules x = new CacheRules(1, 2, 0, 1);
        due("a miss", x.access(5, 2, false), 3);
        due("a hit", x.access(5, 2, false), 0);
        due("a part", x.access(5, 0, true), 1);
        due("parts there", x.way(1, 0, 2), 5);
        due("parts changed", x.way(1, 0, 3), 1);
        due("a line below 0, set 1", x.access(-1, 3, true), 3);
        due("set 1", linesOf(x, 1), "5 -1");
        due("line -1 there", x.way(1, 1, 2), 8);
        due("line -1 changed", x.way(1, 1, 3), 8);
        due("line 7 puts 5 out", x.access(7, 0, false), 3);
        due("rows", caughtLines(x), "5:5:1");
        due("a caught one, with another part", x.access(5, 1, true), 2);
        due("set 1 then", linesOf(x, 1), "7 5");
        due("its parts", x.way(1, 1, 2), 7);
        due("its changed parts", x.way(1, 1, 3), 3);
        due("rows then", caughtLines(x), "-1:8:8");
        due("line 9 puts 7 out, -1 out of all", x.access(9, 0, false), 3);
        due("rows at last", caughtLines(x), "7:1:0");
        due("counts", counts(x), "7 1 1 1 4 0 6 1 3 1 0 0 2 2");
        for (int part : new int[] {-1, 4, LEAST, GREATEST}) {
            dueThrow("part " + part, BAD_INDEX, () -> x.access(9, part, true));
        }
        due("counts after wrong parts", counts(x), "7 1 1 1 4 0 6 1 3 1 0 0 2 2");
    }

    private static void accessLocked() {
        about = "promise 3, locked";
        CacheRules x = new CacheRules(0, 1, 0, 2);
        x.access(1, 0, true);
        x.access(2, 0, false);
        x.lock(2, true);
        due("passed by, reading", x.access(3, 0, false), 4);
        due("passed by, writing", x.access(3, 0, true), 4);
        due("writes", x.count(7), 1);
        due("fetched", x.count(6), 4);
        due("caught that cannot be placed, part there", x.access(1, 0, false), 2);
        due("fetched still", x.count(6), 4);
        due("caught that cannot be placed, part not there", x.access(1, 3, true), 2);
        due("fetched then", x.count(6), 5);
        due("rows", caughtLines(x), "1:9:9");
        due("way", linesOf(x, 0), "2");
        x.mode(true, true);
        due("caught, going through", x.access(1, 1, true), 2);
        due("rows then", caughtLines(x), "1:11:9");
        due("writes then", x.count(7), 2);
        x.mode(false, false);
        due("a miss that does not place is no passing by", x.access(4, 0, true), 3);
        due("counts", counts(x), "8 0 0 3 3 2 6 3 1 1 0 0 1 1");
        due("a locked line is used", x.access(2, 1, true), 1);
        x.lock(2, false);
        due("a caught line is placed though writing does not place", x.access(1, 0, true), 2);
        due("way then", linesOf(x, 0), "1");
        due("rows at last", caughtLines(x), "2:3:2");
    }

    private static void accessModes() {
        about = "promise 3, writing";
        CacheRules x = new CacheRules(0, 2, 0, 0);
        x.mode(true, true);
        due("through, a miss", x.access(1, 0, true), 3);
        due("not changed", x.way(0, 0, 3), 0);
        due("there", x.way(0, 0, 2), 1);
        due("through, a hit", x.access(1, 0, true), 0);
        due("writes", x.count(7), 2);
        x.mode(false, false);
        due("a hit where writing does not place", x.access(1, 0, true), 0);
        due("changed", x.way(0, 0, 3), 1);
        due("a part where writing does not place", x.access(1, 2, true), 1);
        due("changed then", x.way(0, 0, 3), 5);
        due("a miss where writing does not place", x.access(2, 0, true), 3);
        due("nothing is placed", linesOf(x, 0), "1 -");
        due("nothing is fetched, a write counted", counts(x), "5 2 1 0 2 0 2 3 0 0 0 0 1 2");
        due("it is accessed all the same", x.distance(2), 0);
        due("reading places", x.access(2, 0, false), 3);
        x.mode(true, true);
        due("through, a changed part stays changed", x.access(1, 0, true), 0);
        due("changed at last", x.way(0, 0, 3), 5);
        due("line 3 puts 2 out, unchanged", x.access(3, 0, false), 3);
        due("writes then", x.count(7), 4);
        due("line 4 puts 1 out, two parts changed", x.access(4, 0, false), 3);
        due("writes at last", x.count(7), 6);
    }

    private static void catching() {
        about = "promise 3, catching rows";
        CacheRules x = new CacheRules(0, 1, 0, 3);
        for (int line = 1; line <= 4; line++) {
            x.access(line, line % 4, true);
            x.access(line, 1, false);
        }
        due("rows", caughtLines(x), "1:2:2 2:6:4 3:10:8");
        due("from the middle", x.access(2, 2, false), 2);
        due("rows then", caughtLines(x), "1:2:2 3:10:8 4:3:1");
        due("no write yet", x.count(7), 0);
        due("a miss", x.access(5, 0, false), 3);
        due("the first one goes out of all", caughtLines(x), "3:10:8 4:3:1 2:6:4");
        due("its write", x.count(7), 1);
        due("lines put out", x.count(8), 5);
        due("kind of caught", x.count(3), 1);
    }

    private static void rules0to4() {
        about = "rule 0";
        CacheRules x = full(0, 3);
        due("next", x.next(0), 0);
        x.access(0, 1, false);
        due("a part is a use", x.next(0), 1);
        x.lock(1, true);
        due("not a locked one", x.next(0), 2);
        about = "rule 1";
        x = full(1, 3);
        reads(x, 0, 0, 3);
        due("the first that came goes", linesOf(x, 0), "3 1 2");
        due("next", x.next(0), 1);
        about = "rule 2";
        x = full(2, 3);
        due("next", x.next(0), 2);
        reads(x, 1, 9);
        due("the last used one goes", linesOf(x, 0), "0 9 2");
        about = "rule 3";
        x = full(3, 4);
        due("x is 1", x.next(0), 0);
        due("asking changes nothing", x.next(0), 0);
        reads(x, 10);
        due("x is 1103527590, 16838 of 4", x.next(0), 2);
        x.lock(1, true);
        due("16838 of 3 is 2: way 3", x.next(0), 3);
        reads(x, 11);
        due("set", linesOf(x, 0), "10 1 2 11");
        // x is 377401575 then: 5758 of 3 is 1.
        due("third number", x.next(0), 2);
        about = "rule 4";
        x = full(4, 3);
        reads(x, 0, 0, 1, 2);
        due("of the fewest uses the longest ago", x.next(0), 1);
        reads(x, 1);
        due("one use against two", x.next(0), 2);
        reads(x, 7);
        due("a coming starts at none", x.next(0), 2);
        x = full(4, 2);
        reads(x, 0, 0, 1, 5, 5);
        due("uses before it came do not count", x.next(0), 1);
    }

    private static void rule5() {
        about = "rule 5";
        CacheRules x = full(5, 3);
        reads(x, 0);
        due("the marked one is passed", x.next(0), 1);
        due("asking takes no mark away", x.next(0), 1);
        reads(x, 3);
        due("set", linesOf(x, 0), "0 3 2");
        due("the hand is behind", x.next(0), 2);
        reads(x, 3, 2);
        due("way 0 lost its mark", x.next(0), 0);
        reads(x, 0);
        due("all marked: the whole round", x.next(0), 2);
        reads(x, 4);
        due("set then", linesOf(x, 0), "0 3 4");
        due("all marks are gone", x.next(0), 0);
        x = full(5, 3);
        reads(x, 0, 1, 2);
        x.lock(0, true);
        due("a locked one is passed", x.next(0), 1);
        reads(x, 5);
        due("the hand is at way 2, that has no mark now", x.next(0), 2);
        x.lock(0, false);
        reads(x, 6);
        due("the locked one kept its mark", x.next(0), 1);
    }

    private static void rule6() {
        about = "rule 6";
        CacheRules x = full(6, 4);
        due("next", x.next(0), 0);
        reads(x, 0);
        due("the other side", x.next(0), 2);
        x.lock(2, true);
        due("the next up", x.next(0), 3);
        x.lock(3, true);
        due("and round", x.next(0), 0);
        x = full(6, 3);
        // Bits after ways 0, 1, 2: top to the left, left one to the left, right one to the right.
        due("three of four", x.next(0), 0);
        reads(x, 0);
        due("way 3 is none: round to 0", x.next(0), 0);
        x = full(6, 5);
        due("five of eight", x.next(0), 0);
        reads(x, 0, 2);
        due("way 6 is none: round to 0", x.next(0), 0);
        x = full(6, 1);
        due("one way", x.next(0), 0);
        reads(x, 8);
        due("it goes", linesOf(x, 0), "8");
        x = full(6, 2);
        due("two ways", x.next(0), 0);
        reads(x, 0);
        due("the other of two", x.next(0), 1);
        x = full(6, 8);
        reads(x, 0, 4, 2, 6);
        due("eight", x.next(0), 1);
    }

    private static void rules7to9() {
        about = "rule 7";
        CacheRules x = full(7, 3);
        due("only way 2 is marked", x.next(0), 0);
        reads(x, 0);
        due("0 and 2 are marked", x.next(0), 1);
        x.lock(1, true);
        due("all that are free are marked", x.next(0), 0);
        x.lock(1, false);
        reads(x, 1);
        due("all others lose theirs", x.next(0), 0);
        x = new CacheRules(0, 3, 7, 0);
        reads(x, 0, 1);
        x.drop(0);
        x.access(1, 1, false);
        reads(x, 0, 2);
        due("marks stay when lines are dropped", x.next(0), 0);
        about = "rule 8";
        x = full(8, 3);
        reads(x, 0);
        due("the lowest of the oldest", x.next(0), 1);
        due("asking makes none older", x.next(0), 1);
        reads(x, 5);
        due("set", linesOf(x, 0), "0 5 2");
        due("way 2 is 3 now", x.next(0), 2);
        x.lock(2, true);
        due("not the locked one", x.next(0), 1);
        reads(x, 6, 6);
        x.lock(2, false);
        due("the locked one is 3 still", x.next(0), 2);
        reads(x, 7);
        due("way 0 went from 1 to 2", x.next(0), 0);
        about = "rule 9";
        x = full(9, 3);
        due("the last that came", x.next(0), 2);
        reads(x, 5);
        due("set", linesOf(x, 0), "0 1 5");
        reads(x, 5);
        due("a use counts as it is", x.next(0), 1);
        reads(x, 1, 0);
        due("then as rule 0", x.next(0), 2);
    }

    private static void ask() {
        about = "promise 4";
        CacheRules x = new CacheRules(0, 2, 0, 0);
        x.access(1, 0, false);
        due("a hit", x.ask(1, 0), 0);
        due("it is accessed", x.count(1), 1);
        due("another part waits", x.ask(1, 1), 1);
        due("the same again", x.ask(1, 1), 2);
        due("other lines", x.ask(-2, 3) + x.ask(3, 0) + x.ask(4, 0), 3);
        dueThrow("a fifth line", UnsupportedOperationException.class, () -> x.ask(5, 0));
        dueThrow("a wrong part comes first", BAD_INDEX, () -> x.ask(5, 4));
        dueThrow("part -1", BAD_INDEX, () -> x.ask(1, -1));
        due("a hit beside four lines", x.ask(1, 0), 0);
        for (int k = 5; k < 16; k++) {
            due("ask " + k, x.ask(4, k % 4), 2);
        }
        due("asks", x.count(10), 16);
        due("lines", x.count(11), 4);
        dueThrow("a seventeenth", UnsupportedOperationException.class, () -> x.ask(4, 0));
        dueThrow("a wrong part still comes first", BAD_INDEX, () -> x.ask(4, 4));
        due("a hit needs no room", x.ask(1, 0), 0);
        due("only hits are accessed", counts(x), "4 3 0 0 1 0 1 0 0 0 16 4 1 2");
        due("asks are no lines of ways", linesOf(x, 0), "1 -");
        x.access(4, 0, false);
        due("part 0 of line 4 is a hit now", x.ask(4, 0), 0);
    }

    private static void answer() {
        about = "promise 5";
        CacheRules x = new CacheRules(0, 1, 0, 1);
        dueThrow("none waits", NoSuchElementException.class, () -> x.answer());
        x.ask(1, 2);
        x.ask(2, 0);
        x.ask(1, 2);
        x.ask(1, 0);
        x.ask(3, 1);
        due("line 1", x.answer(), 3);
        due("counts", counts(x), "3 1 1 0 1 0 2 0 0 0 2 2 1 1");
        x.ask(1, 3);
        due("line 2", x.answer(), 1);
        due("line 1 is in the rows", caughtLines(x), "1:5:0");
        due("line 3", x.answer(), 1);
        due("line 1 again, behind the others", x.answer(), 1);
        due("way", linesOf(x, 0), "1");
        dueThrow("none waits any more", NoSuchElementException.class, () -> x.answer());
        due("counts at last", counts(x), "6 1 1 0 4 0 5 0 3 1 0 0 1 1");
    }

    private static void answered() {
        about = "promise 6";
        CacheRules x = new CacheRules(0, 1, 0, 1);
        dueThrow("nothing answered", BAD_INDEX, () -> x.answered(0, 0));
        x.ask(1, 2);
        x.ask(1, 2);
        x.ask(2, 3);
        x.ask(1, 0);
        dueThrow("nothing answered yet", BAD_INDEX, () -> x.answered(0, 0));
        x.answer();
        due("parts", "" + x.answered(0, 0) + x.answered(1, 0) + x.answered(2, 0), "220");
        due("kinds", "" + x.answered(0, 1) + x.answered(1, 1) + x.answered(2, 1), "301");
        dueThrow("k 3", BAD_INDEX, () -> x.answered(3, 0));
        dueThrow("k -1", BAD_INDEX, () -> x.answered(-1, 0));
        dueThrow("what 2", BAD_INDEX, () -> x.answered(0, 2));
        dueThrow("what -1", BAD_INDEX, () -> x.answered(0, -1));
        x.answer();
        due("part of line 2", x.answered(0, 0), 3);
        due("kind of line 2", x.answered(0, 1), 3);
        dueThrow("only one now", BAD_INDEX, () -> x.answered(1, 0));
        dueThrow("no more", NoSuchElementException.class, () -> x.answer());
        due("an answer that failed leaves it", x.answered(0, 0), 3);
        x.lock(2, true);
        x.ask(1, 0);
        x.ask(9, 0);
        x.answer();
        due("caught", x.answered(0, 1), 2);
        x.answer();
        due("passed by", x.answered(0, 1), 4);
    }

    private static void lock() {
        about = "promise 7";
        CacheRules x = new CacheRules(0, 2, 0, 2);
        due("no such line", x.lock(1, true), false);
        reads(x, 1, 2, 3);
        due("a caught line has no way", x.lock(1, true), false);
        due("free already", x.lock(2, false), false);
        due("locked", x.lock(2, true), true);
        due("locked already", x.lock(2, true), false);
        due("way", x.way(0, 1, 4), 1);
        due("other way", x.way(0, 0, 4), 0);
        reads(x, 4, 5);
        due("it stays", linesOf(x, 0), "5 2");
        due("free", x.lock(2, false), true);
        due("way then", x.way(0, 1, 4), 0);
        due("line 0 is not there, though ways have none", new CacheRules(0, 1, 0, 0).lock(0, true), false);
    }

    private static void cleaning() {
        about = "promise 8";
        CacheRules x = new CacheRules(1, 1, 0, 2);
        x.access(1, 0, true);
        x.access(1, 3, true);
        x.access(1, 2, false);
        x.access(3, 1, true);
        due("nowhere", x.clean(7), 0);
        due("in the rows", x.clean(1), 2);
        due("rows", caughtLines(x), "1:13:0");
        due("in a way", x.clean(3), 1);
        due("way", x.way(1, 0, 3), 0);
        due("there still", x.way(1, 0, 2), 2);
        due("clean already", x.clean(3), 0);
        due("writes", x.count(7), 3);
        due("no access", x.count(0), 4);
        about = "promise 9";
        due("nothing to clean", x.cleanAll(), 0);
        x.access(3, 0, true);
        x.access(2, 0, true);
        x.access(2, 1, true);
        x.access(5, 3, true);
        due("all", x.cleanAll(), 4);
        due("rows", caughtLines(x), "1:13:0 3:3:0");
        due("ways", x.way(0, 0, 3) + x.way(1, 0, 3), 0);
        due("writes", x.count(7), 7);
        due("again", x.cleanAll(), 0);
        CacheRules rows = new CacheRules(0, 1, 0, 2);
        rows.access(1, 0, true);
        rows.access(2, 0, true);
        rows.access(3, 0, true);
        due("every row too", rows.cleanAll(), 3);
        due("rows are clean", caughtLines(rows), "1:1:0 2:1:0");
    }

    private static void drop() {
        about = "promise 10";
        CacheRules x = new CacheRules(0, 2, 0, 2);
        due("nowhere", x.drop(0), NONE);
        x.access(1, 0, true);
        x.access(2, 0, true);
        x.access(2, 1, true);
        x.access(3, 0, false);
        x.access(4, 0, false);
        due("rows", caughtLines(x), "1:1:1 2:3:3");
        due("of the rows", x.drop(1), 1);
        due("rows then", caughtLines(x), "2:3:3");
        x.lock(3, true);
        x.access(3, 2, true);
        due("of a locked way", x.drop(3), 1);
        due("way", "" + x.way(0, 0, 0) + x.way(0, 0, 1) + x.way(0, 0, 2) + x.way(0, 0, 3) + x.way(0, 0, 4), "00000");
        due("gone", x.drop(3), NONE);
        due("unchanged", x.drop(4), 0);
        due("nothing is written", x.count(7), 0);
        due("not by the rule", x.count(8), 2);
        due("distance stays", x.distance(3), 0);
        due("of the rows then", x.drop(2), 2);
        due("none caught", x.count(9), 0);
        reads(x, 8);
        due("the lowest way without a line", linesOf(x, 0), "8 -");
        CacheRules tree = full(6, 4);
        tree.drop(1);
        reads(tree, 9);
        due("the tree stays: ways 2, 3 are older", tree.next(0), 2);
    }

    private static void way() {
        about = "promise 11";
        CacheRules x = new CacheRules(2, 3, 0, 0);
        x.access(-2, 1, true);
        x.access(-2, 0, false);
        x.lock(-2, true);
        due("line", x.way(2, 0, 0), -2);
        due("has one", x.way(2, 0, 1), 1);
        due("there", x.way(2, 0, 2), 3);
        due("changed", x.way(2, 0, 3), 2);
        due("locked", x.way(2, 0, 4), 1);
        for (int what = 0; what <= 4; what++) {
            due("without a line, " + what, x.way(3, 2, what), 0);
        }
        int[][] bad = {{-1, 0, 0}, {4, 0, 0}, {0, -1, 0}, {0, 3, 0}, {0, 0, -1}, {0, 0, 5},
            {LEAST, 0, 0}, {GREATEST, 2, 0}, {0, GREATEST, 0}, {-1, 3, 0}};
        for (int[] b : bad) {
            dueThrow("way(" + b[0] + ", " + b[1] + ", " + b[2] + ")", BAD_INDEX, () -> x.way(b[0], b[1], b[2]));
        }
    }

    private static void caught() {
        about = "promise 12";
        CacheRules x = new CacheRules(0, 1, 0, 2);
        dueThrow("none", BAD_INDEX, () -> x.caught(0, 0));
        x.access(-7, 3, true);
        x.access(-7, 0, false);
        x.access(8, 1, false);
        due("line", x.caught(0, 0), -7);
        due("there", x.caught(0, 1), 9);
        due("changed", x.caught(0, 2), 8);
        dueThrow("what 3", BAD_INDEX, () -> x.caught(0, 3));
        dueThrow("what -1", BAD_INDEX, () -> x.caught(0, -1));
        dueThrow("k 1", BAD_INDEX, () -> x.caught(1, 0));
        dueThrow("k -1", BAD_INDEX, () -> x.caught(-1, 0));
        CacheRules noRows = new CacheRules(0, 1, 0, 0);
        reads(noRows, 1, 2);
        dueThrow("no rows", BAD_INDEX, () -> noRows.caught(0, 0));
    }

    private static void next() {
        about = "promise 13";
        for (int rule = 0; rule < 10; rule++) {
            CacheRules x = new CacheRules(1, 2, rule, 1);
            due("no lines", x.next(0), NONE);
            reads(x, 1, 0, 2);
            due("set 1 has a way without a line", x.next(1), NONE);
            int picked = x.next(0);
            due("asking again", x.next(0), picked);
            int out = x.way(0, picked, 0);
            reads(x, 4);
            due("rule " + rule + " picks what next told", x.caught(0, 0), out);
            x.lock(4, true);
            due("the other one", x.next(0), 1 - picked);
            x.lock(x.way(0, 1 - picked, 0), true);
            due("all locked", x.next(0), NONE);
            x.drop(4);
            due("one dropped", x.next(0), NONE);
            dueThrow("set 2", BAD_INDEX, () -> x.next(2));
            dueThrow("set -1", BAD_INDEX, () -> x.next(-1));
        }
    }

    private static void misses() {
        about = "promise 14";
        CacheRules x = new CacheRules(0, 1, 0, 0);
        due("none yet", x.misses(1), 0);
        reads(x, 1, 2, 1, 1, 3, 2);
        due("1", x.misses(1), 5);
        due("2", x.misses(2), 4);
        due("3", x.misses(3), 3);
        due("64", x.misses(64), 3);
        CacheRules far = new CacheRules(0, 1, 0, 0);
        for (int line = 0; line < 64; line++) {
            far.access(line, 0, false);
        }
        far.access(0, 0, false);
        due("distance 63 is no miss of 64", far.misses(64), 64);
        due("distance 63 is a miss of 63", far.misses(63), 65);
        far.access(64, 0, false);
        far.access(1, 0, false);
        due("line 1 fell out", far.misses(64), 66);
        for (int n : new int[] {0, 65, -1, LEAST, GREATEST}) {
            dueThrow("misses(" + n + ")", IllegalArgumentException.class, () -> x.misses(n));
        }
    }

    private static void distance() {
        about = "promise 15";
        CacheRules x = new CacheRules(0, 1, 0, 0);
        due("nothing yet", x.distance(0), NONE);
        reads(x, 5, -6, 5);
        due("the latest", x.distance(5), 0);
        due("the one before", x.distance(-6), 1);
        due("none", x.distance(7), NONE);
        for (int line = 100; line < 162; line++) {
            x.access(line, 0, false);
        }
        due("the 64th", x.distance(-6), 63);
        due("the 63rd", x.distance(5), 62);
        x.access(200, 0, false);
        due("out of the last 64", x.distance(-6), NONE);
        due("the 64th now", x.distance(5), 63);
        x.ask(5, 0);
        due("an ask that waits is no access", x.distance(5), 63);
        x.answer();
        due("its answer is one", x.distance(5), 0);
    }

    private static void count() {
        about = "promise 16";
        CacheRules x = new CacheRules(4, 8, 0, 4);
        for (int what : new int[] {-1, 14, LEAST, GREATEST}) {
            due("count(" + what + ")", x.count(what), NONE);
        }
        due("sets", x.count(12), 16);
        due("ways", x.count(13), 8);
        for (int line = 0; line < 16 * 10; line += 16) {
            x.access(line, 0, true);
        }
        x.access(16 * 9, 0, false);
        x.access(16 * 9, 1, false);
        x.access(0, 0, false);
        x.ask(1, 0);
        x.ask(2, 0);
        x.ask(1, 1);
        due("counts", counts(x), "13 1 1 1 10 0 11 0 3 2 3 2 16 8");
        for (int line = 16 * 10; line < 16 * 15; line += 16) {
            x.access(line, 0, false);
        }
        due("counts then", counts(x), "18 1 1 1 15 0 16 3 8 4 3 2 16 8");
    }

    public static void main(String[] args) {
        newObject();
        mode();
        accessKinds();
        accessLocked();
        accessModes();
        catching();
        rules0to4();
        rule5();
        rule6();
        rules7to9();
        ask();
        answer();
        answered();
        lock();
        cleaning();
        drop();
        way();
        caught();
        next();
        misses();
        distance();
        count();
        end();
    }
}
