/** The boundary cases that the sentences of 'Terms' name, but for those of the ten rules: a test each. */
public final class TermsEdgeTest extends Checks {
    private static final int[] NO_PARTS = {-1, 4, 5, 32, LEAST, GREATEST};

    // Lines, sets, ways and parts

    static void linesAreInts() {
        about = "'LINES are ints.'";
        int[] lines = {LEAST, GREATEST, -1, 0, 1};
        CacheRules x = new CacheRules(0, 5, 0, 0);
        due("each is a miss", reads(x, lines), "33333");
        due("each is a hit then", reads(x, lines), "00000");
        for (int k = 0; k < lines.length; k++) {
            due("the line of way " + k, x.way(0, k, 0), lines[k]);
            due("the distance of " + lines[k], x.distance(lines[k]), lines.length - 1 - k);
        }
    }

    static void lineZeroIsNotNoLine() {
        about = "'a way has a line or none.'";
        CacheRules x = new CacheRules(0, 2, 0, 1);
        due("a way with none does not have line 0", x.access(0, 0, false), 3);
        due("one has it, one has none", linesOf(x, 0), "0 -");
        x.drop(0);
        due("dropped, it is a miss again", x.access(0, 0, false), 3);
        due("line 0 of its way", x.way(0, 0, 1), 1);
    }

    static void setsAndLowestBits() {
        about = "'There are 1, 2, 4, 8 or 16 SETS; a line's set is its lowest bits.'";
        int[] setCounts = {1, 2, 4, 8, 16};
        for (int k = 0; k < 5; k++) {
            int n = setCounts[k];
            CacheRules x = new CacheRules(k, 1, 0, 0);
            due("sets", x.count(12), n);
            for (int line : new int[] {0, n - 1, n, 2 * n - 1, -1, -n, -n - 1, LEAST, GREATEST, 0x55555555, 0xAAAAAAAA}) {
                x.access(line, 0, false);
                due("the line in its set of " + n, x.way(line & n - 1, 0, 0), line);
            }
        }
    }

    static void setsDoNotMeet() {
        about = "'There are 1, 2, 4, 8 or 16 SETS; a line's set is its lowest bits.'";
        CacheRules x = new CacheRules(4, 1, 0, 0);
        for (int line = 0; line < 16; line++) {
            due("a set of its own for " + line, x.access(line, 0, false), 3);
        }
        due("none went out", x.count(8), 0);
        due("line 16 is of set 0", x.access(16, 0, false), 3);
        due("and puts line 0 out alone", x.count(8), 1);
        due("line 15 is there still", x.access(15, 0, false), 0);
        due("line 0 is not", x.access(0, 0, false), 3);
    }

    static void waysOfEachWidth() {
        about = "'Each set has W WAYS, 0 .. W - 1'";
        for (int width = 1; width <= 8; width++) {
            CacheRules x = full(0, width);
            for (int way = 0; way < width; way++) {
                due("way " + way + " of " + width, x.way(0, way, 0), way);
            }
            due("none went out of " + width, x.count(8), 0);
            x.access(width, 0, false);
            due("one more puts one out of " + width, x.count(8), 1);
        }
    }

    static void fourParts() {
        about = "'A line has four PARTS 0 .. 3, each of them THERE or not, and CHANGED or not'";
        for (int part = 0; part < 4; part++) {
            CacheRules x = new CacheRules(0, 1, 0, 0);
            due("a miss of part " + part, x.access(7, part, false), 3);
            due("part " + part + " alone is there", wayOf(x, 0, 0), "7:1:" + (1 << part) + ":0:0");
            due("a hit", x.access(7, part, true), 0);
            due("part " + part + " alone is changed", wayOf(x, 0, 0), "7:1:" + (1 << part) + ":" + (1 << part) + ":0");
        }
        CacheRules x = new CacheRules(0, 1, 0, 0);
        due("all four, changed", writes(x, 7, 3, 1, 0, 2), "3111");
        due("all four", wayOf(x, 0, 0), "7:1:15:15:0");
    }

    static void aWayMayBeLocked() {
        about = "'a way may be LOCKED.'";
        CacheRules x = new CacheRules(0, 2, 0, 1);
        writes(x, 1, 0);
        reads(x, 2);
        lockAll(x, 1);
        x.access(1, 0, false);
        x.access(1, 1, true);
        x.clean(1);
        x.cleanAll();
        reads(x, 3, 4, 2);
        due("it stays so while its line is there", wayOf(x, 0, 0), "1:1:3:0:1");
        due("the other way is free", wayOf(x, 0, 1), "2:1:1:0:0");
    }

    static void whatIsNotThereIsNotChanged() {
        about = "'(one that is not there is not changed)'";
        CacheRules x = new CacheRules(0, 1, 0, 0);
        writes(x, 1, 0, 1, 2, 3);
        x.access(2, 0, false);
        due("behind a changed line", wayOf(x, 0, 0), "2:1:1:0:0");
        writes(x, 2, 1);
        x.drop(2);
        due("dropped", wayOf(x, 0, 0), "0:0:0:0:0");
        x.access(3, 2, false);
        due("behind a dropped line", wayOf(x, 0, 0), "3:1:4:0:0");
        x.mode(false, false);
        x.access(4, 3, true);
        due("a miss that does not place changes nothing", wayOf(x, 0, 0), "3:1:4:0:0");
        CacheRules rows = new CacheRules(0, 1, 0, 1);
        writes(rows, 1, 0, 1, 2, 3);
        reads(rows, 2, 3);
        due("a row behind a changed one", caughtLines(rows), "2:1:0");
    }

    // The catching rows

    static void upToVRows() {
        about = "'THE CATCHING ROWS: up to V lines with their parts, in the order in which they came.'";
        String[] want = {"", "5:1:0", "4:1:0 5:1:0", "3:1:0 4:1:0 5:1:0", "2:1:0 3:1:0 4:1:0 5:1:0"};
        for (int room = 0; room <= 4; room++) {
            CacheRules x = new CacheRules(0, 1, 0, room);
            for (int line = 1; line <= room + 1; line++) {
                due("caught before line " + line, x.count(9), line == 1 ? 0 : line - 2);
                x.access(line, 0, false);
            }
            due("full with " + room, x.count(9), room);
            for (int line = room + 2; line <= 6; line++) {
                x.access(line, 0, false);
            }
            due("the latest " + room, caughtLines(x), want[room]);
        }
    }

    static void emptiedRowHasNoLine() {
        about = "'THE CATCHING ROWS: up to V lines'";
        CacheRules x = new CacheRules(0, 1, 0, 1);
        reads(x, 1, 2);
        due("line 1 is caught", caughtLines(x), "1:1:0");
        x.drop(1);
        due("no row", x.count(9), 0);
        due("a line that left its row is a miss", x.access(1, 0, false), 3);
        CacheRules zero = new CacheRules(0, 1, 0, 4);
        reads(zero, 1);
        due("empty rows do not have line 0", zero.access(0, 0, false), 3);
    }

    static void rowsServeAllSets() {
        about = "'THE CATCHING ROWS: up to V lines with their parts, in the order in which they came.'";
        CacheRules x = new CacheRules(1, 1, 0, 2);
        reads(x, 0, 1, 3, 2, 5);
        due("of both sets, in one order", caughtLines(x), "0:1:0 3:1:0");
    }

    // What an access is

    static void hit() {
        about = "'0 HIT: a way has the line, and the part is there.'";
        CacheRules x = new CacheRules(0, 1, 0, 0);
        x.access(1, 3, false);
        due("a hit", x.access(1, 3, false), 0);
        due("it fetches nothing", counts(x), "2 1 0 0 1 0 1 0 0 0 0 0 1 1");
        x.lock(1, true);
        due("a hit of a locked way", x.access(1, 3, true), 0);
        due("changed there", wayOf(x, 0, 0), "1:1:8:8:1");
    }

    static void part() {
        about = "'1 PART: a way has the line, the part is FETCHED.'";
        CacheRules x = new CacheRules(0, 1, 0, 0);
        x.access(1, 3, true);
        due("another part", x.access(1, 0, false), 1);
        due("beside the one before", wayOf(x, 0, 0), "1:1:9:8:0");
        due("fetched", counts(x), "2 0 1 0 1 0 2 0 0 0 0 0 1 1");
        due("a hit then", x.access(1, 0, false), 0);
        x.lock(1, true);
        due("a part of a locked way", x.access(1, 1, true), 1);
        x.mode(false, false);
        due("a part, when writing does not place", x.access(1, 2, true), 1);
        due("all of them", wayOf(x, 0, 0), "1:1:15:14:1");
    }

    static void caughtComesBackWithItsParts() {
        about = "'2 CAUGHT: the catching rows have the line: it goes out of them and is PLACED with its parts'";
        CacheRules x = new CacheRules(0, 1, 0, 2);
        writes(x, 1, 2, 3);
        x.access(1, 0, false);
        reads(x, 2);
        due("caught, its part there", x.access(1, 0, false), 2);
        due("with its parts", wayOf(x, 0, 0), "1:1:13:12:0");
        due("out of the rows, the other in them", caughtLines(x), "2:1:0");
        due("nothing fetched or written for it", counts(x), "5 0 2 1 2 0 4 0 2 1 0 0 1 1");
    }

    static void caughtPartThatIsNotThere() {
        about = "'if the part is not there it is fetched (then, too).'";
        CacheRules x = new CacheRules(0, 1, 0, 1);
        x.access(1, 2, true);
        reads(x, 2);
        due("caught, its part not there", x.access(1, 1, false), 2);
        due("fetched too", x.count(6), 3);
        due("both are there", wayOf(x, 0, 0), "1:1:6:4:0");
        reads(x, 2);
        due("caught, writing a part that is not there", x.access(1, 3, true), 2);
        due("fetched then", x.count(6), 4);
        due("changed", wayOf(x, 0, 0), "1:1:14:12:0");
    }

    static void caughtLeavesRoomForWhatGoesOut() {
        about = "'it goes out of them and is PLACED'";
        for (int room = 1; room <= 4; room++) {
            CacheRules x = new CacheRules(0, 1, 0, room);
            for (int line = 1; line <= room + 1; line++) {
                x.access(line, 0, true);
            }
            due("the first of full rows", x.access(1, 0, false), 2);
            due("none goes out of all", x.count(7), 0);
            due("the rows are full still", x.count(9), room);
            due("the last row", x.caught(room - 1, 0), room + 1);
        }
    }

    static void caughtIntoAWayWithoutALine() {
        about = "'it goes out of them and is PLACED'";
        CacheRules x = new CacheRules(0, 2, 0, 1);
        reads(x, 1, 2, 3);
        x.drop(2);
        due("caught", x.access(1, 0, false), 2);
        due("into the way without a line", linesOf(x, 0), "3 1");
        due("none is caught now", x.count(9), 0);
        due("none went out for it", x.count(8), 1);
    }

    static void caughtThatCannotBePlaced() {
        about = "'When it cannot be placed it stays where it is, and its part is fetched, and changed when writing, there.'";
        CacheRules x = new CacheRules(0, 1, 0, 3);
        reads(x, 1, 2, 3, 4);
        lockAll(x, 4);
        due("reading what is there", x.access(2, 0, false), 2);
        due("fetches nothing", x.count(6), 4);
        due("reading what is not there", x.access(2, 3, false), 2);
        due("fetches it", x.count(6), 5);
        due("writing what is there", x.access(1, 0, true), 2);
        due("writing what is not there", x.access(3, 1, true), 2);
        due("fetches it too", x.count(6), 6);
        due("all stay where they are", caughtLines(x), "1:1:1 2:9:0 3:3:2");
        due("no write", x.count(7), 0);
        due("and so does the way", wayOf(x, 0, 0), "4:1:1:0:1");
        due("none went out", x.count(8), 3);
        due("caught each time", x.count(3), 4);
    }

    static void caughtThatCannotBePlacedGoesThrough() {
        about = "'When it cannot be placed it stays where it is' and 'when it GOES THROUGH'";
        CacheRules x = new CacheRules(0, 1, 0, 1);
        reads(x, 1, 2);
        lockAll(x, 2);
        x.mode(true, false);
        due("writing", x.access(1, 2, true), 2);
        due("there, not changed", caughtLines(x), "1:5:0");
        due("one write", x.count(7), 1);
        due("fetched", x.count(6), 3);
    }

    static void caughtIsPlacedThoughWritingDoesNotPlace() {
        about = "'(A line that is caught is placed also when writing does not place.)'";
        CacheRules x = new CacheRules(0, 1, 0, 1);
        reads(x, 1, 2);
        x.mode(false, false);
        due("caught", x.access(1, 1, true), 2);
        due("placed, fetched and changed", wayOf(x, 0, 0), "1:1:3:2:0");
        due("the other is caught", caughtLines(x), "2:1:0");
        due("no write", x.count(7), 0);
        x.mode(true, false);
        due("caught, going through", x.access(2, 0, true), 2);
        due("placed, not changed", wayOf(x, 0, 0), "2:1:1:0:0");
        due("a write", x.count(7), 1);
    }

    static void missWithThatPartAlone() {
        about = "'3 MISS: the part is fetched, and the line placed with that part alone'";
        CacheRules x = new CacheRules(0, 1, 0, 0);
        writes(x, 1, 0, 1, 2, 3);
        due("a miss", x.access(2, 2, false), 3);
        due("that part alone", wayOf(x, 0, 0), "2:1:4:0:0");
        due("one fetched", x.count(6), 5);
        due("a miss that writes", x.access(3, 1, true), 3);
        due("that part alone, changed", wayOf(x, 0, 0), "3:1:2:2:0");
        due("fetched too", x.count(6), 6);
    }

    static void passedBy() {
        about = "'4 PASSED BY: a miss that cannot be placed (the part is fetched all the same).'";
        for (int width = 1; width <= 8; width++) {
            CacheRules x = full(0, width);
            for (int line = 0; line < width; line++) {
                due("not all are locked", x.access(line, 0, false), 0);
                lockAll(x, line);
            }
            String lines = linesOf(x, 0);
            due("passed by", x.access(100, 0, false), 4);
            due("fetched", x.count(6), width + 1);
            due("passed by again", x.access(100, 0, false), 4);
            due("fetched again", x.count(6), width + 2);
            due("the ways stay", linesOf(x, 0), lines);
            due("passed by twice", x.count(5), 2);
            x.lock(width - 1, false);
            due("one is free", x.access(100, 0, false), 3);
        }
    }

    static void passedByWriting() {
        about = "'4 PASSED BY' and 'the line is nowhere behind it'";
        CacheRules x = new CacheRules(0, 1, 0, 1);
        reads(x, 1, 2);
        lockAll(x, 2);
        String ways = linesOf(x, 0);
        due("passed by", x.access(3, 1, true), 4);
        due("fetched", x.count(6), 3);
        due("one write", x.count(7), 1);
        x.mode(true, true);
        due("passed by, going through", x.access(3, 1, true), 4);
        due("one write more", x.count(7), 2);
        due("ways", linesOf(x, 0), ways);
        due("rows", caughtLines(x), "1:1:0");
    }

    static void locksOfAnotherSet() {
        about = "'a miss that cannot be placed'";
        CacheRules x = new CacheRules(1, 1, 0, 0);
        reads(x, 0, 1);
        lockAll(x, 1);
        due("set 0 is free", x.access(2, 0, false), 3);
        due("set 1 is not", x.access(3, 0, false), 4);
        CacheRules half = new CacheRules(0, 2, 0, 0);
        reads(half, 1);
        lockAll(half, 1);
        due("a way without a line is free", half.access(2, 0, false), 3);
    }

    static void missThatDoesNotPlace() {
        about = "'A miss that writes, when writing does not place, is a MISS (3): nothing is fetched or placed.'";
        CacheRules x = new CacheRules(0, 2, 0, 1);
        reads(x, 1);
        x.mode(false, false);
        due("a miss", x.access(2, 0, true), 3);
        due("with a way that has no line", linesOf(x, 0), "1 -");
        due("nothing fetched, a write", counts(x), "2 0 0 0 2 0 1 1 0 0 0 0 1 2");
        due("a miss again", x.access(2, 0, true), 3);
        reads(x, 3);
        due("a miss, the set full", x.access(2, 0, true), 3);
        due("nothing goes out", linesOf(x, 0), "1 3");
        due("nothing is caught", x.count(9), 0);
        lockAll(x, 1, 3);
        due("no passing by, all locked", x.access(2, 0, true), 3);
        due("not fetched", x.count(6), 2);
        x.mode(true, false);
        due("going through too", x.access(2, 0, true), 3);
        due("a write each", x.count(7), 5);
        due("reading fetches", x.access(2, 0, false), 4);
        due("fetched", x.count(6), 3);
    }

    // Writing

    static void writingGoesThrough() {
        about = "'Writing: when it GOES THROUGH .. one WRITE is counted'";
        CacheRules x = new CacheRules(0, 1, 0, 1);
        x.mode(true, true);
        due("a miss, a hit, a part", writes(x, 1, 0, 0, 1), "301");
        due("a write each, none changed", wayOf(x, 0, 0), "1:1:3:0:0");
        due("three writes", x.count(7), 3);
        reads(x, 2);
        due("caught", x.access(1, 2, true), 2);
        due("not changed", wayOf(x, 0, 0), "1:1:7:0:0");
        due("four writes", x.count(7), 4);
        reads(x, 2, 3, 4);
        due("what goes out has none to write", x.count(7), 4);
    }

    static void writingNowhere() {
        about = "'or the line is nowhere behind it, one WRITE is counted'";
        CacheRules x = new CacheRules(0, 1, 0, 0);
        x.mode(false, false);
        due("a miss", x.access(1, 0, true), 3);
        due("one write", x.count(7), 1);
        x.mode(true, false);
        due("a miss, going through", x.access(1, 0, true), 3);
        due("one write, not two", x.count(7), 2);
        x.mode(false, true);
        due("placed", x.access(1, 0, true), 3);
        due("no write", x.count(7), 2);
    }

    static void writingChanges() {
        about = "'else the part is changed.'";
        CacheRules x = new CacheRules(0, 1, 0, 0);
        due("a miss, hits, a part", writes(x, 1, 1, 1, 1, 2), "3001");
        due("changed", wayOf(x, 0, 0), "1:1:6:6:0");
        due("no write yet", x.count(7), 0);
        x.access(2, 0, false);
        due("a write for each part, however often it was written", x.count(7), 2);
    }

    static void readingChangesNothing() {
        about = "'Writing: .. else the part is changed.'";
        CacheRules x = new CacheRules(0, 1, 0, 1);
        x.mode(true, true);
        reads(x, 1, 1, 2, 1);
        due("nothing changed", wayOf(x, 0, 0), "1:1:1:0:0");
        due("no write", x.count(7), 0);
        x.mode(false, true);
        reads(x, 2, 3);
        due("nothing changed in the rows", caughtLines(x), "2:1:0");
        due("no write still", x.count(7), 0);
    }

    // Placing

    static void lowestWayWithoutALine() {
        about = "'PLACED: into the lowest way of its set that has no line'";
        for (int rule = 0; rule < 10; rule++) {
            CacheRules x = full(rule, 4);
            x.drop(3);
            x.drop(1);
            reads(x, 10);
            due("rule " + rule + ", the lower one", linesOf(x, 0), "0 10 2 -");
            lockAll(x, 0, 10, 2);
            reads(x, 11);
            due("rule " + rule + ", all others locked", linesOf(x, 0), "0 10 2 11");
            due("rule " + rule + ", none went out", x.count(8), 0);
            due("rule " + rule + ", it is not locked", x.way(0, 3, 4), 0);
        }
    }

    static void onlyOneIsNotLocked() {
        about = "'else, if some way is not locked, into the one that the rule picks, whose line goes out'";
        for (int rule = 0; rule < 10; rule++) {
            for (int free = 0; free < 3; free++) {
                CacheRules x = full(rule, 3);
                for (int line = 0; line < 3; line++) {
                    if (line != free) {
                        lockAll(x, line);
                    }
                }
                due("rule " + rule + ", next", x.next(0), free);
                due("rule " + rule, reads(x, 10, 11, free), "333");
                due("rule " + rule + ", way " + free, x.way(0, free, 0), free);
                due("rule " + rule + ", went out", x.count(8), 3);
            }
        }
    }

    static void behindTheOthers() {
        about = "'into the catching rows, behind the others'";
        CacheRules x = new CacheRules(0, 1, 0, 3);
        reads(x, 1);
        writes(x, 2, 1);
        reads(x, 3);
        due("in their order", caughtLines(x), "1:1:0 2:2:2");
        due("from the front, then behind", reads(x, 1), "2");
        due("3 is behind 2", caughtLines(x), "2:2:2 3:1:0");
    }

    static void whenThereAreVAlready() {
        about = "'when there are V already .. the first one of them .. goes out of all'";
        for (int room = 1; room <= 4; room++) {
            CacheRules x = new CacheRules(0, 1, 0, room);
            writes(x, 1, 0, 1, 2, 3);
            for (int line = 2; line <= room + 1; line++) {
                writes(x, line, 2);
            }
            due("nothing written while there is room", x.count(7), 0);
            due("the first row", x.caught(0, 0), 1);
            reads(x, 50);
            due("four parts written", x.count(7), 4);
            due("as many rows", x.count(9), room);
            due("the last row", x.caught(room - 1, 0), room + 1);
            due("it is nowhere", x.drop(1), NONE);
        }
    }

    static void noRows() {
        about = "'(V = 0: it itself)'";
        CacheRules x = new CacheRules(0, 1, 0, 0);
        writes(x, 1, 0, 3);
        reads(x, 2);
        due("its two changed parts", x.count(7), 2);
        due("it is nowhere", x.drop(1), NONE);
        due("none caught", x.count(9), 0);
        due("gone out by the rule", x.count(8), 1);
        reads(x, 3);
        due("none changed, none written", x.count(7), 2);
    }

    static void eachChangedPartIsAWrite() {
        about = "'each changed part of what goes out of all is one write.'";
        for (int parts = 0; parts <= 4; parts++) {
            CacheRules bare = new CacheRules(0, 1, 0, 0);
            CacheRules rows = new CacheRules(0, 1, 0, 1);
            for (CacheRules x : new CacheRules[] {bare, rows}) {
                x.access(1, 0, false);
                for (int part = 0; part < parts; part++) {
                    x.access(1, part, true);
                }
                reads(x, 2);
            }
            due("V = 0, changed parts", bare.count(7), parts);
            due("caught, not written", rows.count(7), 0);
            reads(rows, 3);
            due("V = 1, changed parts", rows.count(7), parts);
        }
    }

    // What the rule is told

    static void useWithHitAndPart() {
        about = "'The rule is TOLD: a USE with 0 and 1'";
        for (int kind = 0; kind <= 1; kind++) {
            CacheRules x = full(0, 2);
            due("a use", x.access(0, kind, false), kind);
            due("rule 0 hears it", x.next(0), 1);
            x = full(5, 2);
            x.access(0, kind, true);
            due("rule 5 hears it", x.next(0), 1);
            x = full(8, 2);
            x.access(0, kind, false);
            due("rule 8 hears it", x.next(0), 1);
            x = full(4, 2);
            x.access(0, kind, false);
            due("rule 4 hears it", x.next(0), 1);
        }
    }

    static void comingWithAPlacing() {
        about = "'a COMING with a placing.'";
        CacheRules x = new CacheRules(0, 2, 8, 1);
        reads(x, 1, 2, 3, 2);
        due("a caught line is placed", x.access(1, 0, false), 2);
        due("into way 0", linesOf(x, 0), "1 2");
        due("a coming makes it 2, a use of way 1 and a picking made that 1", x.next(0), 0);
        CacheRules uses = new CacheRules(0, 2, 4, 1);
        reads(uses, 1, 2, 2, 3, 1);
        due("a caught line came and had no use", uses.next(0), 0);
        due("beside one that had one", linesOf(uses, 0), "1 2");
        CacheRules first = new CacheRules(0, 2, 1, 1);
        reads(first, 1, 2, 3, 1);
        due("a caught line comes anew", linesOf(first, 0), "3 1");
        due("so 3 came first", first.next(0), 0);
    }

    static void nothingElseIsTold() {
        about = "'The rule is TOLD: a USE with 0 and 1, a COMING with a placing.'";
        for (int rule = 0; rule < 10; rule++) {
            CacheRules x = new CacheRules(0, 3, rule, 2);
            reads(x, 0, 1, 2, 3, 4, 1, 0);
            int picked = x.next(0);
            int first = x.way(0, 0, 0);
            int second = x.way(0, 1, 0);
            int third = x.way(0, 2, 0);
            int inRows = x.caught(0, 0);
            lockAll(x, first, second, third);
            due("passed by", x.access(100, 0, false), 4);
            due("caught and not placed", x.access(inRows, 1, true), 2);
            x.mode(false, false);
            due("a miss that does not place", x.access(101, 0, true), 3);
            due("waits", x.ask(first, 3), 1);
            x.clean(first);
            x.cleanAll();
            x.lock(first, false);
            x.lock(second, false);
            x.lock(third, false);
            due("rule " + rule + " picks as before", x.next(0), picked);
        }
    }

    // Asks

    static void upTo16Asks() {
        about = "'ASKS: up to 16'";
        CacheRules x = new CacheRules(0, 1, 0, 0);
        for (int k = 0; k < 16; k++) {
            due("ask " + k, x.ask(1, k % 4), k == 0 ? 1 : 2);
            due("asks", x.count(10), k + 1);
        }
        dueRefused("a seventeenth", UnsupportedOperationException.class, x, () -> x.ask(1, 0));
        due("all are answered", x.answer(), 16);
        due("room again", x.ask(2, 0), 1);
    }

    static void upTo4Lines() {
        about = "'they wait by LINES, 4 at most'";
        CacheRules x = new CacheRules(0, 1, 0, 0);
        for (int line = 0; line < 4; line++) {
            due("line " + line, x.ask(line, 0), 1);
            due("lines", x.count(11), line + 1);
        }
        dueRefused("a fifth", UnsupportedOperationException.class, x, () -> x.ask(4, 0));
        due("one more of the first", x.ask(0, 1), 2);
        due("one more of the fourth", x.ask(3, 1), 2);
        due("lines still", x.count(11), 4);
        due("line 0", x.answer(), 2);
        due("room for a fifth", x.ask(4, 0), 1);
        dueThrow("none for a sixth", UnsupportedOperationException.class, () -> x.ask(5, 0));
    }

    static void inTheOrderOfTheirFirstAsks() {
        about = "'in the order of their first asks.'";
        CacheRules x = new CacheRules(0, 4, 0, 0);
        x.ask(5, 0);
        x.ask(6, 0);
        x.ask(5, 1);
        x.ask(7, 0);
        x.ask(6, 1);
        x.ask(5, 2);
        due("5, though it asked last", x.answer(), 3);
        x.ask(5, 3);
        due("6", x.answer(), 2);
        due("6 is behind 5 in its ways", linesOf(x, 0), "5 6 - -");
        due("7, before what 5 asked anew", x.answer(), 1);
        due("ways", linesOf(x, 0), "5 6 7 -");
        due("5 again", x.answer(), 1);
        due("part 3 of it", x.answered(0, 0), 3);
    }

    static void asksAreReading() {
        about = "'each of a line's part, reading'";
        CacheRules x = new CacheRules(0, 1, 0, 0);
        x.mode(true, false);
        due("waits", x.ask(1, 2), 1);
        due("answered", x.answer(), 1);
        due("placed and not changed", wayOf(x, 0, 0), "1:1:4:0:0");
        due("a hit", x.ask(1, 2), 0);
        due("nothing written", counts(x), "2 1 0 0 1 0 1 0 0 0 0 0 1 1");
    }

    // How far back

    static void theLast64() {
        about = "'HOW FAR BACK: the last 64 different lines accessed, the latest one first.'";
        CacheRules x = new CacheRules(0, 1, 0, 0);
        for (int line = 1; line <= 64; line++) {
            due("before line " + line, x.distance(1), line == 1 ? NONE : line - 2);
            x.access(line, 0, false);
        }
        due("the first of 64", x.distance(1), 63);
        due("the latest of 64", x.distance(64), 0);
        x.access(65, 0, false);
        due("the 65th last", x.distance(1), NONE);
        due("the 64th last", x.distance(2), 63);
        x.access(2, 0, false);
        due("the 64th last comes to the front", x.distance(2), 0);
        due("none fell out for it", x.distance(3), 63);
        x.access(1, 0, false);
        due("one that had fallen out pushes one out", x.distance(3), NONE);
        due("and the next is last", x.distance(4), 63);
    }

    static void differentLines() {
        about = "'the last 64 different lines accessed'";
        CacheRules x = new CacheRules(0, 1, 0, 0);
        reads(x, 1);
        for (int k = 0; k < 70; k++) {
            x.access(2, k % 4, false);
        }
        due("one line is one, however often", x.distance(1), 1);
        reads(x, 3, 1, 2);
        due("from the middle: 2", x.distance(2), 0);
        due("then 1", x.distance(1), 1);
        due("then 3", x.distance(3), 2);
    }

    static void theKthFrom0() {
        about = "'An access of the k-th one (from 0) has the DISTANCE k; of none of these NONE.'";
        CacheRules x = new CacheRules(0, 1, 0, 0);
        due("of none", x.distance(1), NONE);
        reads(x, 1);
        due("of the latest", x.distance(1), 0);
        reads(x, 1);
        due("an access of the distance 0", x.misses(1), 1);
        reads(x, 2, 1);
        due("an access of the distance 1", x.misses(1), 3);
        due("is none of 2 or more", x.misses(2), 2);
        due("a line that was none of these", x.distance(3), NONE);
    }

    static void everyAccessIsNoted() {
        about = "'HOW FAR BACK: the last 64 different lines accessed'";
        CacheRules x = new CacheRules(0, 1, 0, 1);
        reads(x, 1, 2);
        lockAll(x, 2);
        x.access(3, 0, false);
        due("passed by", x.distance(3), 0);
        x.access(1, 0, false);
        due("caught and not placed", x.distance(1), 0);
        x.mode(false, false);
        x.access(4, 0, true);
        due("a miss that does not place", x.distance(4), 0);
        x.ask(5, 0);
        due("an ask that waits", x.distance(5), NONE);
        x.ask(2, 0);
        due("an ask that is a hit", x.distance(2), 0);
        x.answer();
        due("an ask that is answered", x.distance(5), 0);
        due("misses of one line", x.misses(1), 7);
        due("all of them", x.count(0), 7);
    }

    // Which exception is thrown

    static void partsThatAreNone() {
        about = "'For all calls with a line's part: IndexOutOfBoundsException, when it is not 0 .. 3.'";
        CacheRules x = new CacheRules(0, 2, 0, 1);
        writes(x, 1, 0, 1);
        reads(x, 2, 3);
        for (int part : NO_PARTS) {
            dueThrow("reading part " + part, BAD_INDEX, () -> x.access(1, part, false));
            dueThrow("writing part " + part, BAD_INDEX, () -> x.access(9, part, true));
            dueThrow("asking for part " + part, BAD_INDEX, () -> x.ask(3, part));
        }
        dueRefused("access", BAD_INDEX, x, () -> x.access(2, 4, true));
        dueRefused("ask", BAD_INDEX, x, () -> x.ask(2, -1));
        for (int part = 0; part < 4; part++) {
            due("part " + part + " is one", x.ask(8, part), part == 0 ? 1 : 2);
        }
    }

    static void theFirstOneTold() {
        about = "'Of several exceptions the first one told is thrown.'";
        CacheRules lines = new CacheRules(0, 1, 0, 0);
        for (int line = 0; line < 4; line++) {
            lines.ask(line, 0);
        }
        dueThrow("a fifth line, a wrong part", BAD_INDEX, () -> lines.ask(4, 4));
        dueThrow("a fifth line, a wrong part below", BAD_INDEX, () -> lines.ask(4, -1));
        CacheRules asks = new CacheRules(0, 1, 0, 0);
        for (int k = 0; k < 16; k++) {
            asks.ask(0, 0);
        }
        dueThrow("a seventeenth ask, a wrong part", BAD_INDEX, () -> asks.ask(0, 4));
        dueThrow("a seventeenth ask", UnsupportedOperationException.class, () -> asks.ask(0, 3));
    }

    // How long an object is used

    static void fiveHundredAndTwelveCalls() {
        about = "'An object is used for at most 512 calls after it has been made'";
        CacheRules x = new CacheRules(0, 1, 0, 0);
        for (int line = 0; line < 510; line++) {
            x.access(line, 3, true);
        }
        due("call 511", x.misses(64), 510);
        due("call 512", x.count(7), 509);
        CacheRules same = new CacheRules(0, 1, 4, 0);
        for (int k = 0; k < 511; k++) {
            same.access(5, 0, true);
        }
        due("call 512 of one line", same.count(1), 510);
    }

    public static void main(String[] args) {
        runAll(TermsEdgeTest.class);
    }
}
