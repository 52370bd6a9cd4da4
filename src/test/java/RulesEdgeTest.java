import java.util.HashMap;
import java.util.Map;

/** The boundary cases that the sentences of the ten rules name: a test each. */
public final class RulesEdgeTest extends Checks {
    /** The ways of set 0 whose lines go out, one behind the other, when new lines come. */
    private static String goOut(CacheRules x, int times) {
        StringBuilder picked = new StringBuilder();
        for (int k = 0; k < times; k++) {
            int way = x.next(0);
            int line = 16 * (1000 + x.count(0));
            x.access(line, 0, false);
            due("the line of the way that next told", way == NONE ? NONE : x.way(0, way, 0), line);
            picked.append(way);
        }
        return picked.toString();
    }

    // What holds for all rules

    static void oneWay() {
        about = "'RULES pick among the ways of a set', W = 1";
        for (int rule = 0; rule < 10; rule++) {
            CacheRules x = full(rule, 1);
            due("rule " + rule + ", next", x.next(0), 0);
            reads(x, 0, 0);
            due("rule " + rule + ", used", goOut(x, 3), "000");
            due("rule " + rule + ", went out", x.count(8), 3);
        }
    }

    static void notALockedOne() {
        about = "'RULES pick among the ways .. that are not locked'";
        for (int rule = 0; rule < 10; rule++) {
            for (int width = 2; width <= 8; width++) {
                CacheRules x = full(rule, width);
                reads(x, 0, width - 1, 0);
                for (int locked = 0; locked < width; locked++) {
                    int way = x.next(0);
                    due("rule " + rule + ", a free way is picked", x.way(0, way, 4), 0);
                    lockAll(x, x.way(0, way, 0));
                }
                due("rule " + rule + ", none is left", x.next(0), NONE);
            }
        }
    }

    static void setsAreApart() {
        about = "'RULES pick among the ways of a set'";
        for (int rule = 0; rule < 10; rule++) {
            CacheRules x = new CacheRules(1, 3, rule, 0);
            CacheRules alone = new CacheRules(1, 3, rule, 0);
            reads(x, 0, 1, 2, 3, 4, 5, 1, 1, 3);
            reads(alone, 0, 2, 4);
            due("rule " + rule + ", not by what the other set was told", x.next(0), alone.next(0));
            reads(x, 0, 2);
            reads(alone, 0, 2);
            due("rule " + rule + ", nor then", x.next(0), alone.next(0));
        }
    }

    // Rule 0

    static void longestAgo() {
        about = "'0 the one whose last use or coming is longest ago.'";
        CacheRules x = full(0, 8);
        due("by comings", goOut(x, 9), "012345670");
        x = full(0, 3);
        reads(x, 1, 0);
        due("by uses and comings", goOut(x, 4), "2102");
    }

    // Rule 1

    static void cameFirst() {
        about = "'1 that which came first.'";
        CacheRules x = full(1, 3);
        reads(x, 0, 1, 0);
        due("uses are nothing to it", goOut(x, 4), "0120");
        x = full(1, 3);
        x.drop(0);
        reads(x, 7);
        due("way 0 came last now", goOut(x, 3), "120");
    }

    // Rule 2

    static void usedLast() {
        about = "'2 that whose last use or coming was last.'";
        CacheRules x = full(2, 3);
        due("the last that came, and again", goOut(x, 2), "22");
        reads(x, 0);
        due("the last that was used, and again", goOut(x, 2), "00");
        lockAll(x, x.way(0, 0, 0));
        due("the last but one", x.next(0), 2);
    }

    // Rule 3

    private static String chances(int n, int times) {
        StringBuilder picked = new StringBuilder();
        long x = 1;
        for (int k = 0; k < times; k++) {
            picked.append(x / 65536 % n);
            x = (1103515245L * x + 12345) % 2147483648L;
        }
        return picked.toString();
    }

    static void chanceOfN() {
        about = "'of n ways, in their order, number (x / 65536) modulo n'";
        // 1 / 65536 is 0, 1103527590 / 65536 is 16838, 377401575 / 65536 is 5758.
        due("of 4, by hand", goOut(full(3, 4), 3), "022");
        for (int width = 1; width <= 8; width++) {
            due("of " + width, goOut(full(3, width), 60), chances(width, 60));
        }
    }

    static void chanceBeginsAt1() {
        about = "'(x is 1 at first)'";
        for (int width = 1; width <= 8; width++) {
            due("1 / 65536 is 0, of " + width, full(3, width).next(0), 0);
        }
    }

    static void chanceKeeps31Bits() {
        about = "'then x is 1103515245 * x + 12345, of that the lowest 31 bits'";
        // Of 60 numbers some would be below 0, or too large, with 32 bits or more.
        due("of 7", goOut(full(3, 7), 60), chances(7, 60));
        due("of 5", goOut(full(3, 5), 60), chances(5, 60));
    }

    static void chanceInTheirOrder() {
        about = "'of n ways, in their order', locked ones among them";
        CacheRules x = full(3, 8);
        lockAll(x, 0, 3, 4, 7);
        int[] free = {1, 2, 5, 6};
        String of4 = chances(4, 40);
        StringBuilder want = new StringBuilder();
        for (int k = 0; k < of4.length(); k++) {
            want.append(free[of4.charAt(k) - '0']);
        }
        due("of the four that are free", goOut(x, 40), want.toString());
    }

    static void chanceGoesOnWithPickingsAlone() {
        about = "'3 CHANCE: .. then x is 1103515245 * x + 12345'";
        CacheRules x = new CacheRules(1, 4, 3, 0);
        reads(x, 0, 2, 4, 6, 1, 3, 5, 7);
        due("no way without a line counted", x.next(0) + " " + x.next(1), "0 0");
        x.access(8, 0, false);
        due("one x for all sets", x.next(0) + " " + x.next(1), "2 2");
        reads(x, 8, 3, 3);
        lockAll(x, 1, 3, 5, 7);
        due("passed by", x.access(9, 0, false), 4);
        due("nothing was picked", x.next(0), 2);
    }

    // Rule 4

    static void fewestUses() {
        about = "'4 that which had the fewest uses since it came, of these the one of rule 0.'";
        CacheRules x = full(4, 3);
        due("none used: the one of rule 0", x.next(0), 0);
        reads(x, 0, 1);
        due("the one without a use", x.next(0), 2);
        reads(x, 2, 0, 1, 2);
        due("two each: longest ago", x.next(0), 0);
        reads(x, 1, 2, 2, 0);
        due("three, three and four", x.next(0), 1);
        x.access(0, 1, false);
        x.access(1, 1, false);
        due("all have four now: longest ago", x.next(0), 2);
    }

    static void usesSinceItCame() {
        about = "'4 .. uses since it came'";
        CacheRules x = full(4, 2);
        reads(x, 0, 0, 1, 1, 1);
        due("0 goes", goOut(x, 1), "0");
        due("the new one has none and goes", goOut(x, 2), "00");
        reads(x, x.way(0, 0, 0), x.way(0, 0, 0));
        due("the new one has two, the other three", x.next(0), 0);
        goOut(x, 1);
        x.drop(1);
        reads(x, 1);
        due("dropped and come anew, none too: longest ago", x.next(0), 0);
        int line = x.way(0, 0, 0);
        reads(x, line);
        due("the one that came anew", x.next(0), 1);
    }

    // Rule 5

    static void handGoesRound() {
        about = "'each set a HAND, at way 0 at first: it goes on and round'";
        for (int width = 1; width <= 8; width++) {
            CacheRules x = full(5, width);
            StringBuilder want = new StringBuilder();
            for (int k = 0; k < 2 * width + 1; k++) {
                want.append(k % width);
            }
            due("two rounds of " + width, goOut(x, 2 * width + 1), want.toString());
        }
    }

    static void markedLosesItsMark() {
        about = "'one with a mark loses it and is passed, one without is picked'";
        CacheRules x = full(5, 4);
        reads(x, 0, 1);
        due("0 and 1 are passed, then 3, then 0 without its mark", goOut(x, 3), "230");
    }

    static void allMarked() {
        about = "'it goes on and round .. one with a mark loses it and is passed', all marked";
        CacheRules x = full(5, 3);
        goOut(x, 1);
        for (int way = 0; way < 3; way++) {
            reads(x, x.way(0, way, 0));
        }
        due("a whole round from way 1, none has a mark then", goOut(x, 4), "1201");
        CacheRules last = full(5, 3);
        goOut(last, 2);
        for (int way = 0; way < 3; way++) {
            reads(last, last.way(0, way, 0));
        }
        due("from the last way, the hand at 0 then", goOut(last, 3), "201");
    }

    static void lockedArePassed() {
        about = "'locked ways are passed'";
        CacheRules x = full(5, 3);
        reads(x, 0, 2);
        lockAll(x, 0, 2);
        due("way 1, again and again", goOut(x, 3), "111");
        x.lock(0, false);
        x.lock(2, false);
        due("both kept their marks: from way 2 to way 1", x.next(0), 1);
        CacheRules only = full(5, 3);
        reads(only, 1);
        lockAll(only, 0, 2);
        due("the one that is free has a mark: a whole round", goOut(only, 1), "1");
        due("the hand is behind it", only.next(0), 1);
        only.lock(0, false);
        only.lock(2, false);
        due("at way 2", only.next(0), 2);
    }

    static void comingTakesTheMarkAway() {
        about = "'each way has a mark, that a use sets and a coming takes away'";
        CacheRules x = full(5, 2);
        reads(x, 0);
        due("passed", x.next(0), 1);
        x.drop(0);
        reads(x, 9);
        due("a new line in its way has none", x.next(0), 0);
    }

    static void handStaysWithoutAPicking() {
        about = "'the hand is at the way behind that then.'";
        CacheRules x = full(5, 3);
        x.drop(0);
        reads(x, 5);
        due("a way without a line moves no hand", x.next(0), 0);
        reads(x, 6);
        due("a picking does", x.next(0), 1);
        CacheRules two = new CacheRules(1, 2, 5, 0);
        reads(two, 0, 1, 2, 3, 4);
        due("a hand for each set", two.next(0) + " " + two.next(1), "1 0");
        reads(two, 5, 7, 9);
        due("set 1 has its own", two.next(0) + " " + two.next(1), "1 1");
    }

    // Rule 6

    static void treeOfEachWidth() {
        about = "'P is 1, 2, 4 or 8, the least that is not below W.'";
        int[] depths = {0, 0, 1, 2, 2, 3, 3, 3, 3};
        for (int width = 1; width <= 8; width++) {
            due("of " + width, goOut(full(6, width), 2 * width), treeOfSides(width, depths[width]));
        }
        due("of 2, by hand", goOut(full(6, 2), 4), "0101");
        due("of 4, by hand", goOut(full(6, 4), 5), "02130");
        due("of 8, by hand", goOut(full(6, 8), 9), "042615370");
    }

    /** Ways that go out one behind the other, by a tree held by paths of sides: "" is the top, "L" its left. */
    private static String treeOfSides(int width, int depth) {
        Map<String, Character> tree = new HashMap<>();
        for (int way = 0; way < width; way++) {
            tellTree(tree, way, depth);
        }
        StringBuilder picked = new StringBuilder();
        for (int k = 0; k < 2 * width; k++) {
            String path = "";
            int way = 0;
            for (int level = 0; level < depth; level++) {
                char side = tree.getOrDefault(path, 'L');
                way = 2 * way + (side == 'R' ? 1 : 0);
                path += side;
            }
            way = way < width ? way : 0;
            picked.append(way);
            tellTree(tree, way, depth);
        }
        return picked.toString();
    }

    private static void tellTree(Map<String, Character> tree, int way, int depth) {
        String path = "";
        for (int level = depth - 1; level >= 0; level--) {
            boolean right = (way >> level) % 2 == 1;
            tree.put(path, right ? 'L' : 'R');
            path += right ? 'R' : 'L';
        }
    }

    static void nodesBelowNodes() {
        about = "'node 1 is the top, nodes 2 i and 2 i + 1 are below node i, the ways below the lowest ones in their order.'";
        // After all eight came each node points to its left; a use turns the nodes above it alone.
        int[] otherHalf = {4, 4, 4, 4, 0, 0, 0, 0};
        int[] otherPair = {2, 2, 0, 0, 6, 6, 4, 4};
        for (int way = 0; way < 8; way++) {
            CacheRules x = full(6, 8);
            reads(x, way);
            due("behind " + way, x.next(0), otherHalf[way]);
            reads(x, way < 4 ? 7 : 3);
            due("behind " + way + " and the last of the other half", x.next(0), otherPair[way]);
        }
    }

    static void whereTheBitsPoint() {
        about = "'Picked is the way that the bits point to'";
        for (int way = 0; way < 8; way++) {
            CacheRules x = full(6, 8);
            // The other way of its pair, one of the other pair of its half, one of the other half.
            reads(x, way ^ 1, way ^ 2, way ^ 1, way ^ 2, way ^ 4);
            due("to " + way + " or its pair", x.next(0) / 2, way / 2);
            reads(x, way ^ 1, way ^ 2, way ^ 4);
            due("to " + way, x.next(0), way);
        }
    }

    static void pointsToNone() {
        about = "'when that is none .. the next one that is right, going up and round.'";
        CacheRules x = full(6, 3);
        reads(x, 0);
        due("3 of 3 is none: 0", x.next(0), 0);
        lockAll(x, 0);
        due("0 is locked: 1", x.next(0), 1);
        lockAll(x, 1);
        due("1 is locked: 2", x.next(0), 2);
        x = full(6, 5);
        reads(x, 0);
        due("6 of 5 is none: 0", x.next(0), 0);
        x = full(6, 6);
        reads(x, 0);
        due("6 of 6 is none: 0", x.next(0), 0);
        x = full(6, 7);
        reads(x, 0, 4, 0);
        due("7 of 7 is none: 0", x.next(0), 0);
    }

    static void pointsToALockedOne() {
        about = "'when that is .. locked, the next one that is right, going up and round.'";
        CacheRules x = full(6, 8);
        reads(x, 0);
        due("it points to 4", x.next(0), 4);
        int[] order = {4, 5, 6, 7, 0, 1, 2, 3};
        for (int k = 0; k < 8; k++) {
            due("with " + k + " locked", x.next(0), order[k]);
            lockAll(x, order[k]);
        }
        due("with all locked", x.next(0), NONE);
    }

    static void bitsToTheOtherSide() {
        about = "'A use or coming sets all bits above the way to point to the other side (1: to the right).'";
        for (int used = 0; used < 8; used++) {
            CacheRules other = full(6, 8);
            reads(other, used);
            due("the right half behind " + used, other.next(0) >= 4, used < 4);
        }
        CacheRules x = full(6, 8);
        reads(x, 0, 4);
        due("behind 0 and 4: the left half, its right pair", x.next(0), 2);
        reads(x, 2, 6);
        due("behind 2 and 6: the left pair, its right way", x.next(0), 1);
    }

    // Rule 7

    static void lastMark() {
        about = "'when then all ways of the set have one, all others lose theirs.'";
        for (int width = 2; width <= 8; width++) {
            CacheRules x = full(7, width);
            due("the last one of " + width + " alone is marked", x.next(0), 0);
            for (int line = 0; line < width - 1; line++) {
                due("the lowest one without a mark", x.next(0), line);
                reads(x, line);
            }
            due("the last use alone is left", x.next(0), width == 2 ? 1 : 0);
            lockAll(x, width - 2);
            reads(x, width - 2);
            due("a locked one has a mark too", x.next(0), width == 2 ? 1 : 0);
        }
    }

    static void latelyByUseOrComing() {
        about = "'7 LATELY: a use or coming sets a way's mark'";
        CacheRules x = full(7, 4);
        due("3 came last", x.next(0), 0);
        reads(x, 0);
        due("a use of 0", x.next(0), 1);
        due("a coming into 1, then into 2, which is the last one", goOut(x, 2), "12");
        due("2 alone is marked", x.next(0), 0);
        x.access(0, 1, false);
        due("a part is a use", x.next(0), 1);
    }

    static void lockedLoseTheirMarksToo() {
        about = "'all others lose theirs.'";
        CacheRules x = full(7, 2);
        lockAll(x, 1);
        reads(x, 0);
        x.lock(1, false);
        due("the locked one lost its mark", x.next(0), 1);
        CacheRules three = full(7, 3);
        lockAll(three, 0);
        reads(three, 1);
        three.lock(0, false);
        due("a locked one without a mark keeps the others' marks", three.next(0), 0);
        reads(three, 0);
        due("then all had one", three.next(0), 1);
    }

    static void allMarkedTheLowest() {
        about = "'Picked is the lowest one without a mark; when all are marked the lowest one.'";
        CacheRules x = full(7, 4);
        reads(x, 1, 2);
        due("0 is without one", x.next(0), 0);
        lockAll(x, 0);
        due("all that are free are marked: the lowest of them", x.next(0), 1);
        lockAll(x, 1);
        due("the lowest then", x.next(0), 2);
    }

    // Rule 8

    static void agesGrowUntilOneIs3() {
        about = "'when there is none all that could be picked are one older, and so again.'";
        CacheRules x = full(8, 3);
        due("all are 2: one older, the lowest, the others are 3", goOut(x, 4), "0120");
        x = full(8, 3);
        reads(x, 0, 1, 2);
        due("all are 0: three times", goOut(x, 4), "0120");
        x = full(8, 3);
        reads(x, 0, 1);
        due("0, 0 and 2: once", goOut(x, 1), "2");
        due("1, 1 and 2: once more", goOut(x, 1), "2");
        due("2, 2 and 2: the lowest", goOut(x, 1), "0");
    }

    static void lowestOfAge3() {
        about = "'Picked is the lowest one of age 3'";
        CacheRules x = full(8, 4);
        due("the first", goOut(x, 1), "0");
        reads(x, 1);
        due("2, 0, 3 and 3: nobody is older for it", goOut(x, 2), "23");
        due("2, 0, 2 and 2", x.next(0), 0);
    }

    static void lockedDoNotAge() {
        about = "'all that could be picked are one older'";
        CacheRules x = full(8, 2);
        lockAll(x, 1);
        due("way 0, again and again", goOut(x, 3), "000");
        x.lock(1, false);
        due("way 1 is 2 still, as way 0", x.next(0), 0);
        reads(x, x.way(0, 0, 0));
        due("2 against 0", x.next(0), 1);
    }

    static void comingIs2UseIs0() {
        about = "'8 AGES 0 .. 3: a coming makes it 2, a use 0.'";
        CacheRules x = full(8, 2);
        due("3 and 3", goOut(x, 1), "0");
        due("2 and 3", x.next(0), 1);
        reads(x, 1);
        due("2 and 0", goOut(x, 1), "0");
        due("2 and 1", goOut(x, 1), "0");
        due("2 and 2", goOut(x, 1), "0");
        due("2 and 3", goOut(x, 1), "1");
    }

    // Rule 9

    static void comingBeforeAll() {
        about = "'9 as rule 0, but a coming counts as if it had been before all uses and comings so far.'";
        CacheRules x = full(9, 4);
        due("the last that came, again and again", goOut(x, 3), "333");
        lockAll(x, x.way(0, 3, 0));
        due("the last but one", x.next(0), 2);
        x.lock(x.way(0, 3, 0), false);
        reads(x, x.way(0, 3, 0));
        due("a use makes it the latest", x.next(0), 2);
        reads(x, 0, 1, 2);
        due("all used: as rule 0", x.next(0), 3);
        due("what comes goes first", goOut(x, 2), "33");
    }

    public static void main(String[] args) {
        runAll(RulesEdgeTest.class);
    }
}
