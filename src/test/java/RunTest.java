/** Promises 10 to 13: runs, what is told of them, and the comparison of two. */
final class RunTest {
    private static final int MIN = Integer.MIN_VALUE;
    private static final int MAX = Integer.MAX_VALUE;
    private static final Due due = new Due();

    public static void main(String[] args) {
        reckoning();
        conditions();
        objects();
        refusals();
        limits();
        wrongMethods();
        rowsAndTypes();
        callsAndFrames();
        nothingHandled();
        locks();
        locksOfFrames();
        lockedMethods();
        nothingIsLeftOver();
        nothingOfTheOldCode();
        traces();
        noRun();
        compare();
        compareRefuses();
        due.end();
    }

    private static int result(int x, int y, int[]... code) {
        FrameForge forge = Due.forge(2, code);
        int ended = forge.run(0, 0, 1000, x, y, 0);
        return ended == 0 ? forge.ran(0) : -1000 - ended;
    }

    private static void reckoning() {
        int[][] pairs = {{7, 2}, {-7, 2}, {MIN, -1}, {MAX, MAX}, {0, 5}, {65536, 65537}, {MIN, 1}};
        for (int[] pair : pairs) {
            int x = pair[0];
            int y = pair[1];
            int[] want = {x + y, x - y, x * y, x / y};
            for (int k = 0; k < 4; k++) {
                due.is("op " + (7 + k) + " of " + x + " " + y, want[k], result(x, y, Due.in(2, 0), Due.in(2, 1), Due.in(7 + k), Due.in(22)));
            }
        }
        due.is("DIV by 0", -1017, result(3, 0, Due.in(2, 0), Due.in(2, 1), Due.in(10), Due.in(22)));
        due.is("INT", MIN, result(0, 0, Due.in(1, MIN), Due.in(22)));
        due.is("SWAP", 4, result(3, 7, Due.in(2, 0), Due.in(2, 1), Due.in(6), Due.in(8), Due.in(22)));
        due.is("DUP", 49, result(3, 7, Due.in(2, 0), Due.in(2, 1), Due.in(5), Due.in(9), Due.in(22)));
        due.is("POP", 3, result(3, 7, Due.in(2, 0), Due.in(2, 1), Due.in(4), Due.in(22)));
        due.is("STORE", 7, result(3, 7, Due.in(2, 1), Due.in(3, 0), Due.in(2, 0), Due.in(22)));
        due.is("INC", MIN, result(MAX, 7, Due.in(27, 0, 1), Due.in(2, 0), Due.in(22)));
        due.is("INC by less", -2, result(3, 7, Due.in(0), Due.in(27, 0, -5), Due.in(2, 0), Due.in(22)));
        due.is("RETURN takes the top", 9, result(3, 7, Due.in(1, 8), Due.in(1, 9), Due.in(22)));
        FrameForge three = new FrameForge();
        Due.put(three, 5, 3, Due.in(2, 0), Due.in(1, 100), Due.in(9), Due.in(2, 1), Due.in(1, 10), Due.in(9), Due.in(7), Due.in(2, 2), Due.in(7), Due.in(22));
        due.is("x, y, z", 0, three.run(0, 5, 99, 1, 2, 3));
        due.is("x, y, z in LOCALS 0, 1, 2", 123, three.ran(0));
    }

    private static void conditions() {
        int[] xs = {MIN, -1, 0, 1, MAX};
        for (int x : xs) {
            boolean[] holds = {x == 0, x != 0, x < 0};
            for (int a = 0; a < 3; a++) {
                due.is("IF " + a + " of " + x, holds[a] ? 1 : 0, result(x, 0, Due.in(2, 0), Due.in(12, a, 4), Due.in(1, 0), Due.in(22), Due.in(1, 1), Due.in(22)));
            }
        }
        due.is("IF NULL of null", 1, result(0, 0, Due.in(13), Due.in(17, 0, 4), Due.in(1, 0), Due.in(22), Due.in(1, 1), Due.in(22)));
        due.is("IF NULL of an OBJECT", 0, result(0, 0, Due.in(14, 0), Due.in(17, 0, 4), Due.in(1, 0), Due.in(22), Due.in(1, 1), Due.in(22)));
        due.is("GOTO", 5, result(0, 0, Due.in(11, 0, 3), Due.in(1, 4), Due.in(22), Due.in(1, 5), Due.in(22)));
        FrameForge twice = Due.forge(1, Due.in(23, 0, 4), Due.in(23, 0, 4), Due.in(2, 0), Due.in(22), Due.in(3, 5), Due.in(27, 0, 3), Due.in(24, 5));
        due.is("a subroutine twice", 0, twice.run(0, 0, 10, 1, 0, 0));
        due.is("its VALUE", 7, twice.ran(0));
        due.is("its INSTRUCTIONS", 10, twice.ran(1));
    }

    private static void objects() {
        FrameForge x = Due.forge(0, Due.in(14, 4), Due.in(3, 0), Due.in(14, 7), Due.in(3, 1), Due.in(2, 0), Due.in(1, 42), Due.in(16),
            Due.in(2, 1), Due.in(15), Due.in(25), Due.in(2, 0), Due.in(15), Due.in(25), Due.in(2, 1), Due.in(26), Due.in(22));
        due.is("run", 0, x.run(0, 0, 99, 0, 0, 0));
        due.is("TYPE", 7, x.ran(0));
        due.is("OBJECTS made", 2, x.ran(2));
        due.trace("objects", x, 65, 113, 0, 42 * 16);
        due.is("again", 0, x.run(0, 0, 99, 0, 0, 0));
        due.trace("objects again", x, 65, 113, 0, 42 * 16);
        int[] ops = {15, 16, 18, 19, 20, 26};
        for (int op : ops) {
            FrameForge y = new FrameForge();
            y.add(0, 13, 0, 0);
            if (op == 16) {
                y.add(0, 1, 5, 0);
            }
            y.add(0, op, 0, 0);
            y.add(0, 1, 0, 0);
            y.add(0, 22, 0, 0);
            due.is("op " + op + " of null", 18, y.run(0, 0, 99, 0, 0, 0));
            due.trace("op " + op + " of null", y, 2 * 16 + 1, 2 * 16 + 4);
            due.is("INSTRUCTIONS with the one that threw", op == 16 ? 3 : 2, y.ran(1));
            due.is("OBJECTS with the one that was thrown", 1, y.ran(2));
        }
    }

    private static void refusals() {
        FrameForge x = Due.forge(0, Due.in(1, 6), Due.in(22));
        x.run(0, 0, 1000, 0, 0, 0);
        int[][] wrong = {{-1, 0, 5}, {2, 0, 5}, {0, -1, 5}, {0, 6, 5}, {0, 0, -1}, {0, 0, 1001}, {MIN, MIN, MIN}, {MAX, MAX, MAX}, {0, 0, MAX}};
        for (int[] one : wrong) {
            due.is("run " + java.util.Arrays.toString(one), FrameForge.REFUSED, x.run(one[0], one[1], one[2], 0, 0, 0));
        }
        due.is("REFUSED before WRONG", FrameForge.REFUSED, x.run(1, 0, 1001, 0, 0, 0));
        due.is("WRONG", FrameForge.WRONG, x.run(1, 0, 1000, 0, 0, 0));
        due.is("the latest run stays", 6, x.ran(0));
        due.is("and its INSTRUCTIONS", 2, x.ran(1));
        int[] whats = {MIN, -1, 6, MAX};
        for (int what : whats) {
            due.is("ran " + what, FrameForge.REFUSED, x.ran(what));
        }
        x.write(1);
        due.is("run goes by p, not by what is WRITTEN", 0, x.run(0, 0, 2, 0, 0, 0));
    }

    private static void limits() {
        FrameForge x = Due.forge(0, Due.in(1, 6), Due.in(25), Due.in(1, 7), Due.in(22));
        for (int limit = 0; limit < 4; limit++) {
            due.is("limit " + limit, FrameForge.STOPPED, x.run(0, 0, limit, 0, 0, 0));
            due.is("INSTRUCTIONS", limit, x.ran(1));
            due.is("VALUE", 0, x.ran(0));
            due.is("entries", limit < 2 ? 0 : 1, x.ran(4));
            due.is("FRAMES", 1, x.ran(3));
        }
        due.is("limit 4", 0, x.run(0, 0, 4, 0, 0, 0));
        due.is("VALUE", 7, x.ran(0));
        FrameForge loop = Due.forge(0, Due.in(11, 0, 0));
        due.is("without an end", FrameForge.STOPPED, loop.run(0, 0, 1000, 0, 0, 0));
        due.is("INSTRUCTIONS of it", 1000, loop.ran(1));
        FrameForge last = Due.forge(0, Due.in(13), Due.in(20));
        due.is("the last one throws", 18, last.run(0, 0, 2, 0, 0, 0));
        due.is("before it throws", FrameForge.STOPPED, last.run(0, 0, 1, 0, 0, 0));
        FrameForge locked = new FrameForge();
        Due.put(locked, 2, 0, true, Due.in(1), Due.in(22));
        due.is("a LOCKED METHOD, limit 0", FrameForge.STOPPED, locked.run(0, 2, 0, 0, 0, 0));
        due.trace("it has begun", locked, 4002 * 16 + 2);
    }

    private static void wrongMethods() {
        FrameForge x = Due.forge(0, Due.in(1), Due.in(22), Due.in(21, 1));
        due.is("a CALL that is not come to, of a WRONG METHOD", FrameForge.WRONG, x.run(0, 0, 9, 0, 0, 0));
        due.is("itself it is not WRONG", 2, x.check(0));
        Due.put(x, 1, 0, Due.in(1), Due.in(22), Due.in(21, 2));
        Due.put(x, 2, 0, Due.in(1), Due.in(22), Due.in(21, 3));
        Due.put(x, 3, 0, Due.in(1), Due.in(22), Due.in(21, 4));
        Due.put(x, 4, 0, Due.in(1), Due.in(22), Due.in(21, 5));
        due.is("a WRONG METHOD far off", FrameForge.WRONG, x.run(0, 0, 9, 0, 0, 0));
        Due.put(x, 5, 0, Due.in(1), Due.in(22), Due.in(21, 0));
        due.is("none is WRONG", 0, x.run(0, 0, 9, 0, 0, 0));
        Due.put(x, 5, 0, Due.in(1));
        x.method(0, 0, false);
        x.add(0, 1, 0, 0);
        x.add(0, 22, 0, 0);
        due.is("a WRONG METHOD that is not CALLED", 0, x.run(0, 0, 9, 0, 0, 0));
        Due.put(x, 4, 0, Due.in(21, 5), Due.in(22));
        due.is("a CALL at PLACE 0 of a WRONG METHOD", FrameForge.WRONG, x.run(0, 4, 9, 0, 0, 0));
        Due.put(x, 4, 0, Due.in(1), Due.in(22), Due.in(21, 4));
        due.is("a METHOD that CALLS itself", 0, x.run(0, 4, 9, 0, 0, 0));
    }

    private static void rowsAndTypes() {
        int[] above = {-1, 0, 0, 0, 0, 1, 2, 5};
        for (int thrown = 0; thrown < 8; thrown++) {
            for (int type = 0; type < 8; type++) {
                boolean has = false;
                for (int t = thrown; t >= 0; t = above[t]) {
                    has |= t == type;
                }
                FrameForge x = Due.forge(0, Due.in(1, 9), Due.in(14, thrown), Due.in(20), Due.in(26), Due.in(22));
                x.row(0, 2, 3, 3, type);
                due.is(thrown + " under " + type, has ? 0 : 16 + thrown, x.run(0, 0, 99, 0, 0, 0));
                due.is("how often", has ? 1 : 0, x.ran(5));
                due.is("TYPE of it", has ? thrown : 0, x.ran(0));
                due.is("INSTRUCTIONS", has ? 5 : 3, x.ran(1));
            }
        }
        int[][] spans = {{4, 6}, {6, 7}, {7, 13}, {4, 60}, {6, 60}, {5, 6}};
        boolean[] spansIt = {false, true, false, true, true, false};
        for (int k = 0; k < spans.length; k++) {
            FrameForge x = Due.forge(0, Due.in(11, 0, 5), Due.in(0), Due.in(0), Due.in(0), Due.in(0), Due.in(13), Due.in(20), Due.in(4), Due.in(1, 5), Due.in(22));
            x.row(0, spans[k][0], spans[k][1], 7, 0);
            due.is("span " + k, spansIt[k] ? 0 : 18, x.run(0, 0, 99, 0, 0, 0));
        }
        FrameForge first = Due.forge(0, Due.in(14, 7), Due.in(20), Due.in(4), Due.in(1, 1), Due.in(22), Due.in(4), Due.in(1, 2), Due.in(22));
        first.row(0, 1, 2, 2, 6);
        first.row(0, 1, 2, 5, 1);
        first.row(0, 0, 2, 2, 7);
        due.is("the first ROW that HAS it", 0, first.run(0, 0, 99, 0, 0, 0));
        due.is("by its VALUE", 2, first.ran(0));
        due.trace("its TRACE", first, 7 * 16 + 1, 7 * 16 + 4, 7 * 16 + 5);
        FrameForge again = Due.forge(0, Due.in(14, 5), Due.in(20), Due.in(20));
        again.row(0, 0, 2, 2, 5);
        due.is("THROWN again where the ROW is not", 21, again.run(0, 0, 99, 0, 0, 0));
        due.trace("the same OBJECT", again, 81, 84, 85, 84);
        FrameForge deep = Due.forge(0, Due.in(1, 1), Due.in(1, 2), Due.in(14, 2), Due.in(20), Due.in(26), Due.in(22));
        deep.row(0, 3, 4, 4, 2);
        due.is("the STACK is the OBJECT alone", 1, deep.kindAt(0, 4, -1));
        due.is("by a run", 0, deep.run(0, 0, 99, 0, 0, 0));
        due.is("by its VALUE", 2, deep.ran(0));
    }

    private static void callsAndFrames() {
        FrameForge x = new FrameForge();
        Due.put(x, 0, 0, Due.in(1, 9), Due.in(1, 1), Due.in(1, 2), Due.in(1, 3), Due.in(21, 1), Due.in(8), Due.in(22));
        Due.put(x, 1, 3, Due.in(2, 0), Due.in(1, 100), Due.in(9), Due.in(2, 1), Due.in(1, 10), Due.in(9), Due.in(7), Due.in(2, 2), Due.in(7), Due.in(22));
        due.is("a CALL", 0, x.run(0, 0, 99, 0, 0, 0));
        due.is("ARGUMENTS in order, the rest of the STACK stays", 9 - 123, x.ran(0));
        due.is("INSTRUCTIONS of both", 17, x.ran(1));
        due.is("FRAMES", 2, x.ran(3));
        FrameForge down = new FrameForge();
        Due.put(down, 0, 1, Due.in(2, 0), Due.in(12, 0, 6), Due.in(27, 0, -1), Due.in(2, 0), Due.in(21, 0), Due.in(22), Due.in(1, 77), Due.in(22));
        due.is("12 FRAMES", 0, down.run(0, 0, 1000, 11, 0, 0));
        due.is("12 FRAMES, the VALUE", 77, down.ran(0));
        due.is("12 FRAMES at one time", 12, down.ran(3));
        due.is("13 FRAMES", 20, down.run(0, 0, 1000, 12, 0, 0));
        due.is("not 13 at one time", 12, down.ran(3));
        due.trace("DEEP", down, 65, 68);
        down.row(0, 4, 5, 8, 4);
        down.add(0, 26, 0, 0);
        down.add(0, 22, 0, 0);
        due.is("DEEP is had", 0, down.run(0, 0, 1000, 12, 0, 0));
        due.is("by the FRAME whose CALL it was", 1, down.ran(5));
        due.is("its TYPE as VALUE", 4, down.ran(0));
    }

    private static void nothingHandled() {
        FrameForge x = new FrameForge();
        Due.put(x, 0, 0, Due.in(1, 3), Due.in(21, 1), Due.in(22), Due.in(26), Due.in(22));
        Due.put(x, 1, 1, Due.in(0), Due.in(2, 0), Due.in(21, 2), Due.in(22), Due.in(20));
        Due.put(x, 2, 1, Due.in(2, 0), Due.in(1, 0), Due.in(10), Due.in(22));
        due.is("no ROW in three FRAMES", 17, x.run(0, 0, 99, 0, 0, 0));
        due.trace("THROWN once", x, 17, 20);
        x.row(0, 1, 2, 3, 0);
        due.is("a ROW in the lowest FRAME", 0, x.run(0, 0, 99, 0, 0, 0));
        due.trace("had by it", x, 17, 20, 21);
        due.is("VALUE", 1, x.ran(0));
        x.row(1, 2, 3, 4, 1);
        due.is("THROWN again in the middle", 0, x.run(0, 0, 99, 0, 0, 0));
        due.trace("twice had", x, 17, 20, 21, 20, 21);
        due.is("how often", 2, x.ran(5));
    }

    private static void locks() {
        int[] make = Due.in(14, 0);
        FrameForge x = Due.forge(0, make, Due.in(5), Due.in(18), Due.in(19), Due.in(1, 5), Due.in(22));
        due.is("ENTERED and LEFT", 0, x.run(0, 0, 99, 0, 0, 0));
        due.trace("ENTERED and LEFT", x, 1, 18, 19);
        FrameForge twice = Due.forge(0, make, Due.in(5), Due.in(5), Due.in(5), Due.in(18), Due.in(18), Due.in(19), Due.in(1, 5), Due.in(22));
        due.is("LEFT less often", 19, twice.run(0, 0, 99, 0, 0, 0));
        due.trace("LEFT less often", twice, 1, 18, 18, 19, 19, 49, 52);
        due.is("no VALUE then", 0, twice.ran(0));
        due.is("OBJECTS made", 2, twice.ran(2));
        FrameForge more = Due.forge(0, make, Due.in(5), Due.in(5), Due.in(18), Due.in(19), Due.in(19), Due.in(1, 5), Due.in(22));
        due.is("LEFT more often", 19, more.run(0, 0, 99, 0, 0, 0));
        due.trace("LEFT more often", more, 1, 18, 19, 49, 52);
        // A, B, A are ENTERED, A is LEFT once: B, which is later than the A that remains, is LEFT first.
        FrameForge order = Due.forge(0, make, Due.in(3, 0), make, Due.in(3, 1), Due.in(2, 0), Due.in(18), Due.in(2, 1), Due.in(18),
            Due.in(2, 0), Due.in(18), Due.in(2, 0), Due.in(19), Due.in(1), Due.in(22));
        due.is("the latest first", 19, order.run(0, 0, 99, 0, 0, 0));
        due.trace("the latest first", order, 1, 1, 18, 34, 18, 19, 35, 19, 49, 52);
        FrameForge thrown = new FrameForge();
        Due.put(thrown, 0, 0, Due.in(21, 1), Due.in(22), Due.in(26), Due.in(22));
        Due.put(thrown, 1, 0, make, Due.in(18), Due.in(14, 6), Due.in(20), Due.in(20));
        thrown.row(0, 0, 1, 2, 3);
        thrown.row(1, 0, 4, 4, 3);
        due.is("LOCK in place of what was THROWN", 0, thrown.run(0, 0, 99, 0, 0, 0));
        due.trace("LOCK in place of what was THROWN", thrown, 1, 18, 97, 100, 19, 49, 52, 53);
        due.is("TYPE of it", 3, thrown.ran(0));
        // LOCK as the FRAME ends is not THROWN in that FRAME: its own ROW does not have it.
        FrameForge own = Due.forge(0, make, Due.in(18), Due.in(1), Due.in(22), Due.in(4), Due.in(1), Due.in(22));
        own.row(0, 0, 4, 4, 0);
        due.is("not had by its own ROW", 19, own.run(0, 0, 99, 0, 0, 0));
        due.is("no ROW HAD it", 0, own.ran(5));
        FrameForge had = Due.forge(0, make, Due.in(3, 1), Due.in(2, 1), Due.in(19), Due.in(1), Due.in(22), Due.in(26), Due.in(22));
        had.row(0, 3, 4, 6, 3);
        due.is("LEAVE throws at its PLACE", 0, had.run(0, 0, 99, 0, 0, 0));
        due.trace("LEAVE throws at its PLACE", had, 1, 49, 52, 53);
    }

    private static void locksOfFrames() {
        // What the FRAME below has ENTERED is not LEFT by a FRAME that ends.
        FrameForge x = new FrameForge();
        Due.put(x, 0, 0, Due.in(14, 1), Due.in(5), Due.in(18), Due.in(21, 1), Due.in(25), Due.in(19), Due.in(1, 3), Due.in(22));
        Due.put(x, 1, 0, Due.in(14, 2), Due.in(5), Due.in(18), Due.in(19), Due.in(1, 6), Due.in(22));
        due.is("locks of two FRAMES", 0, x.run(0, 0, 99, 0, 0, 0));
        due.trace("locks of two FRAMES", x, 17, 18, 33, 34, 35, 96, 19);
        x.change(1, 3, 4, 0, 0);
        due.is("the upper one has not LEFT", 19, x.run(0, 0, 99, 0, 0, 0));
        due.trace("the upper one has not LEFT", x, 17, 18, 33, 34, 35, 49, 52, 19, 49, 52);
        // A, B, C are ENTERED; B, A, C are LEFT.
        FrameForge order = Due.forge(0, Due.in(14), Due.in(3, 0), Due.in(14), Due.in(3, 1), Due.in(14), Due.in(3, 2), Due.in(2, 0), Due.in(18), Due.in(2, 1), Due.in(18),
            Due.in(2, 2), Due.in(18), Due.in(2, 1), Due.in(19), Due.in(2, 0), Due.in(19), Due.in(2, 2), Due.in(19), Due.in(1, 1), Due.in(22));
        due.is("LEFT in another order", 0, order.run(0, 0, 99, 0, 0, 0));
        due.trace("LEFT in another order", order, 1, 1, 1, 18, 34, 50, 35, 19, 51);
        order.change(0, 15, 4, 0, 0);
        due.is("one is not LEFT", 19, order.run(0, 0, 99, 0, 0, 0));
        due.trace("one is not LEFT", order, 1, 1, 1, 18, 34, 50, 35, 51, 19, 49, 52);
        order.change(0, 14, 2, 1, 0);
        order.change(0, 15, 19, 0, 0);
        due.is("one is LEFT twice", 19, order.run(0, 0, 99, 0, 0, 0));
        due.trace("one is LEFT twice", order, 1, 1, 1, 18, 34, 50, 35, 49, 52, 51, 19, 49, 52);
    }

    private static void nothingIsLeftOver() {
        FrameForge x = new FrameForge();
        Due.put(x, 1, 0, Due.in(14, 3), Due.in(5), Due.in(1, 42), Due.in(16), Due.in(15), Due.in(22));
        Due.put(x, 2, 0, Due.in(14, 3), Due.in(15), Due.in(22));
        Due.put(x, 3, 0, Due.in(13), Due.in(20));
        Due.put(x, 4, 0, Due.in(1, 1), Due.in(1, 1), Due.in(1, 1), Due.in(1, 1), Due.in(21, 5), Due.in(22));
        Due.put(x, 5, 0, Due.in(1, 8), Due.in(22));
        due.is("an ITEM", 0, x.run(0, 1, 99, 0, 0, 0));
        due.is("an ITEM, VALUE", 42, x.ran(0));
        due.is("a new ITEM", 0, x.run(0, 2, 99, 0, 0, 0));
        due.is("a new ITEM, VALUE", 0, x.ran(0));
        due.is("OBJECTS anew", 1, x.ran(2));
        due.is("a VALUE", 0, x.run(0, 4, 99, 0, 0, 0));
        due.is("FRAMES", 2, x.ran(3));
        due.is("no OBJECTS", 0, x.ran(2));
        due.is("no VALUE", 18, x.run(0, 3, 99, 0, 0, 0));
        due.is("no VALUE is left", 0, x.ran(0));
        due.is("FRAMES anew", 1, x.ran(3));
        for (int i = 0; i < 20; i++) {
            due.is("STOPPED with VALUES on the STACK", FrameForge.STOPPED, x.run(0, 4, 4, 0, 0, 0));
        }
        due.is("a STACK anew", 0, x.run(0, 4, 99, 0, 0, 0));
        due.is("a STACK anew, VALUE", 8, x.ran(0));
        FrameForge locks = Due.forge(0, Due.in(14, 7), Due.in(18), Due.in(11, 0, 0));
        Due.put(locks, 1, 0, Due.in(14), Due.in(5), Due.in(18), Due.in(19), Due.in(1, 1), Due.in(22));
        for (int i = 0; i < 5; i++) {
            due.is("STOPPED with locks", FrameForge.STOPPED, locks.run(0, 0, 1000, 0, 0, 0));
        }
        due.is("no locks", 0, locks.run(0, 1, 99, 0, 0, 0));
        // What lies below what is THROWN is gone each time.
        FrameForge stack = Due.forge(1, Due.in(1, 5), Due.in(1, 6), Due.in(1, 7), Due.in(13), Due.in(20), Due.in(4), Due.in(27, 0, -1), Due.in(2, 0), Due.in(12, 1, 0), Due.in(1, 9), Due.in(22));
        stack.row(0, 4, 5, 5, 0);
        due.is("a STACK that is cleared", 0, stack.run(0, 0, 1000, 20, 0, 0));
        due.is("a STACK that is cleared, VALUE", 9, stack.ran(0));
        due.is("a STACK that is cleared, OBJECTS", 20, stack.ran(2));
        due.is("eight VALUES", 12345678, result(0, 0, Due.in(1, 10000000), Due.in(1, 2000000), Due.in(1, 300000), Due.in(1, 40000), Due.in(1, 5000), Due.in(1, 600),
            Due.in(1, 70), Due.in(1, 8), Due.in(7), Due.in(7), Due.in(7), Due.in(7), Due.in(7), Due.in(7), Due.in(7), Due.in(22)));
        due.is("null above an OBJECT", -1018, result(0, 0, Due.in(14, 5), Due.in(13), Due.in(26), Due.in(22)));
        FrameForge deep = Due.forge(0, Due.in(13), Due.in(21, 0), Due.in(22));
        deep.row(0, 1, 2, 1, 4);
        due.is("an OBJECT for nearly each INSTRUCTION", FrameForge.STOPPED, deep.run(0, 0, 1000, 0, 0, 0));
        due.is("how many OBJECTS", 1000 - 23, deep.ran(2));
    }

    private static void lockedMethods() {
        FrameForge x = new FrameForge();
        Due.put(x, 0, 0, true, Due.in(1, 8), Due.in(25), Due.in(21, 5), Due.in(22));
        Due.put(x, 5, 0, true, Due.in(14, 3), Due.in(5), Due.in(18), Due.in(20));
        due.is("LOCKED", 19, x.run(0, 0, 99, 0, 0, 0));
        due.trace("LOCKED", x, 4000 * 16 + 2, 128, 4005 * 16 + 2, 49, 18, 52, 19, 49, 52, 4005 * 16 + 3, 4000 * 16 + 3);
        Due.put(x, 5, 0, true, Due.in(1, -1), Due.in(25), Due.in(1, 4), Due.in(22));
        due.is("LOCKED, RETURNS", 0, x.run(0, 0, 99, 0, 0, 0));
        due.trace("LOCKED, RETURNS", x, 4000 * 16 + 2, 128, 4005 * 16 + 2, 65535 * 16, 4005 * 16 + 3, 4000 * 16 + 3);
        due.is("VALUE", 4, x.ran(0));
    }

    /** Of a METHOD that was full nothing acts once it is begun anew. */
    private static void nothingOfTheOldCode() {
        FrameForge x = new FrameForge();
        for (int i = 0; i < 60; i++) {
            x.add(0, i % 2 == 0 ? 24 : 21, 0, 0);
            x.add(1, i % 2 == 0 ? 23 : 22, 0, 0);
        }
        for (int i = 0; i < 8; i++) {
            x.row(0, 0, 60, 3, 0);
        }
        Due.put(x, 0, 0, Due.in(1), Due.in(13), Due.in(20));
        due.is("no old ROW leads", 3, x.check(0));
        due.is("no old ROW HAS it", 18, x.run(0, 0, 99, 0, 0, 0));
        Due.put(x, 0, 0, Due.in(23, 0, 3), Due.in(1), Due.in(22), Due.in(3, 0), Due.in(1), Due.in(22));
        due.is("no old BACK", FrameForge.NONE, x.unfold(0, 0));
        Due.put(x, 0, 0, Due.in(1), Due.in(22));
        due.is("no old CALL", 0, x.run(0, 0, 99, 0, 0, 0));
        Due.put(x, 0, 0, Due.in(21, 1), Due.in(22));
        Due.put(x, 1, 0, Due.in(1), Due.in(22));
        due.is("no old GOSUB", 3, x.inline(0, 0));
        FrameForge full = Due.forge(0, Due.in(23, 0, 58), Due.in(1), Due.in(22));
        for (int i = 3; i < 58; i++) {
            full.add(0, 0, 0, 0);
        }
        full.add(0, 3, 0, 0);
        full.add(0, 24, 0, 0);
        for (int i = 0; i < 8; i++) {
            full.row(0, 59, 60, 4, i);
        }
        due.is("a full METHOD, not PLAIN as it is WRONG", FrameForge.WRONG, full.unfold(0, 0));
        full.change(0, 57, 20, 0, 0);
        full.change(0, 4, 20, 0, 0);
        due.is("a full METHOD", 59, full.unfold(0, 0));
        due.is("a full METHOD, ROWS", 8, full.table(0, -1, 1));
    }

    private static void traces() {
        FrameForge x = Due.forge(1, Due.in(2, 0), Due.in(25), Due.in(27, 0, 1), Due.in(11, 0, 0));
        due.is("a long TRACE", FrameForge.STOPPED, x.run(0, 0, 1000, 65500, 0, 0));
        due.is("all entries are counted", 250, x.ran(4));
        for (int k = 0; k < 120; k++) {
            due.is("entry " + k, (65500 + k) % 65536 * 16, x.trace(k));
        }
        int[] none = {MIN, -1, 120, 121, 249, 250, MAX};
        for (int k : none) {
            due.is("entry " + k, FrameForge.NONE, x.trace(k));
        }
        x.run(0, 0, 2, MIN, 0, 0);
        due.trace("a short one then", x, 0);
        FrameForge full = Due.forge(0, Due.in(14, 7), Due.in(18), Due.in(11, 0, 0));
        due.is("many locks", FrameForge.STOPPED, full.run(0, 0, 1000, 0, 0, 0));
        due.is("many OBJECTS", 334, full.ran(2));
        FrameForge ends = Due.forge(1, Due.in(14, 7), Due.in(18), Due.in(27, 0, -1), Due.in(2, 0), Due.in(12, 1, 0), Due.in(1), Due.in(22));
        due.is("many locks are LEFT", 19, ends.run(0, 0, 1000, 199, 0, 0));
        due.is("many locks are LEFT, entries", 199 * 3 + 2, ends.ran(4));
        FrameForge made = Due.forge(0, Due.in(14), Due.in(20));
        made.row(0, 1, 2, 1, 0);
        due.is("each INSTRUCTION throws", FrameForge.STOPPED, made.run(0, 0, 1000, 0, 0, 0));
        due.is("the same OBJECT again and again", 1, made.ran(2));
        due.is("how often a ROW HAD it", 999, made.ran(5));
        FrameForge nulls = Due.forge(0, Due.in(13), Due.in(20), Due.in(4), Due.in(13), Due.in(20));
        nulls.row(0, 0, 2, 2, 0);
        nulls.row(0, 2, 5, 2, 2);
        due.is("NULL again and again", FrameForge.STOPPED, nulls.run(0, 0, 1000, 0, 0, 0));
        due.is("new OBJECTS", 333, nulls.ran(2));
    }

    private static void noRun() {
        FrameForge x = new FrameForge();
        for (int what = 0; what < 6; what++) {
            due.is("ran " + what + " before a run", 0, x.ran(what));
        }
        due.is("ran 6 before a run", FrameForge.REFUSED, x.ran(6));
        due.is("trace before a run", FrameForge.NONE, x.trace(0));
        x.run(0, 0, 5, 0, 0, 0);
        due.is("a WRONG run is none", 0, x.ran(3));
    }

    /** Two PROGRAMS with METHOD 0 of one ARGUMENT. */
    private static FrameForge two(int[][] zero, int[][] one) {
        FrameForge x = new FrameForge();
        Due.put(x, 0, 1, zero);
        x.write(1);
        Due.put(x, 0, 1, one);
        return x;
    }

    private static void compare() {
        int[][] five = {Due.in(1, 5), Due.in(22)};
        int[][] six = {Due.in(1, 6), Due.in(22)};
        int[][] fiveLonger = {Due.in(0), Due.in(1, 5), Due.in(22)};
        int[][] says = {Due.in(1, 3), Due.in(25), Due.in(1, 5), Due.in(22)};
        int[][] saysOther = {Due.in(1, 4), Due.in(25), Due.in(1, 5), Due.in(22)};
        int[][] throwsTwo = {Due.in(13), Due.in(20)};
        int[][] throwsThree = {Due.in(14, 3), Due.in(20)};
        int[][] loop = {Due.in(11, 0, 0)};
        int[][] argument = {Due.in(2, 0), Due.in(22)};
        due.is("the same", 0, two(five, five).compare(0, 0, 0, 0));
        due.is("the same in more INSTRUCTIONS", 0, two(five, fiveLonger).compare(0, 0, 0, 0));
        due.is("other VALUES", 1, two(five, six).compare(0, 0, 0, 0));
        due.is("ended otherwise", 1, two(five, throwsTwo).compare(0, 0, 0, 0));
        due.is("ended otherwise, the other way round", 1, two(throwsTwo, five).compare(0, 0, 0, 0));
        due.is("ended by another TYPE", 1, two(throwsThree, throwsTwo).compare(0, 0, 0, 0));
        due.is("ended by the same TYPE", 0, two(throwsTwo, throwsTwo).compare(0, 0, 0, 0));
        due.is("another entry", 2, two(says, saysOther).compare(0, 0, 0, 0));
        due.is("an entry more", 2, two(five, says).compare(0, 0, 0, 0));
        due.is("an entry less", 2, two(says, five).compare(0, 0, 0, 0));
        due.is("0 STOPPED", 3, two(loop, five).compare(0, 0, 0, 0));
        due.is("1 STOPPED", 3, two(throwsTwo, loop).compare(0, 0, 0, 0));
        due.is("both STOPPED", 3, two(loop, loop).compare(0, 0, 0, 0));
        due.is("the ARGUMENT, the same", 0, two(argument, five).compare(0, 5, 0, 0));
        due.is("the ARGUMENT, another", 1, two(five, argument).compare(0, 6, 0, 0));
        FrameForge x = two(five, six);
        x.compare(0, 0, 0, 0);
        due.is("the latest run is that of 1", 6, x.ran(0));
        longTraces();
        due.is("1000 INSTRUCTIONS", 0, two(count(), countAndTwoMore()).compare(0, 249, 0, 0));
        due.is("1001 INSTRUCTIONS", 3, two(count(), countAndThreeMore()).compare(0, 249, 0, 0));
    }

    /** Counts its ARGUMENT down to 0, by four INSTRUCTIONS each time, and does two more then. */
    private static int[][] count() {
        return new int[][] {Due.in(27, 0, -1), Due.in(0), Due.in(2, 0), Due.in(12, 1, 0), Due.in(1), Due.in(22)};
    }

    private static int[][] countAndTwoMore() {
        return new int[][] {Due.in(27, 0, -1), Due.in(0), Due.in(2, 0), Due.in(12, 1, 0), Due.in(0), Due.in(0), Due.in(1), Due.in(22)};
    }

    private static int[][] countAndThreeMore() {
        return new int[][] {Due.in(27, 0, -1), Due.in(0), Due.in(2, 0), Due.in(12, 1, 0), Due.in(0), Due.in(0), Due.in(0), Due.in(1), Due.in(22)};
    }

    private static void longTraces() {
        for (int says = 118; says <= 122; says++) {
            FrameForge x = new FrameForge();
            for (int p = 0; p < 2; p++) {
                x.write(p);
                Due.put(x, 0, 1, Due.in(1, 1), Due.in(25), Due.in(27, 0, -1), Due.in(2, 0), Due.in(12, 1, 0), Due.in(1, p), Due.in(25), Due.in(1), Due.in(22));
            }
            due.is("other entries behind " + says, says < 120 ? 2 : 0, x.compare(0, says, 0, 0));
            x.change(0, 6, 4, 0, 0);
            due.is("another number of entries behind " + says, 2, x.compare(0, says, 0, 0));
        }
    }

    private static void compareRefuses() {
        FrameForge x = two(new int[][] {Due.in(1, 5), Due.in(22)}, new int[][] {Due.in(1, 6), Due.in(22)});
        x.run(0, 0, 9, 0, 0, 0);
        due.is("compare 6", FrameForge.REFUSED, x.compare(6, 0, 0, 0));
        due.is("compare -1", FrameForge.REFUSED, x.compare(-1, 0, 0, 0));
        due.is("both WRONG", FrameForge.WRONG, x.compare(1, 0, 0, 0));
        x.change(0, 1, 4, 0, 0);
        due.is("1 WRONG", FrameForge.WRONG, x.compare(0, 0, 0, 0));
        due.is("the latest run stays", 5, x.ran(0));
        x.branch();
        x.write(0);
        x.change(0, 1, 4, 0, 0);
        due.is("0 WRONG", FrameForge.WRONG, x.compare(0, 0, 0, 0));
        due.is("the latest run stays then too", 5, x.ran(0));
        FrameForge y = two(new int[][] {Due.in(1, 5), Due.in(22)}, new int[][] {Due.in(1, 5), Due.in(22), Due.in(21, 3)});
        due.is("1 CALLS a WRONG one", FrameForge.WRONG, y.compare(0, 0, 0, 0));
    }
}
