import java.util.List;

/** Promise 15: inline. */
final class InlineTest {
    private static final int NONE = FrameForge.NONE;
    private static final int WRONG = FrameForge.WRONG;
    private static final Due due = new Due();

    public static void main(String[] args) {
        ordinary();
        localsAndPlaces();
        rows();
        noneOfThem();
        greatestLocals();
        order();
        full();
        due.end();
    }

    private static void ordinary() {
        FrameForge x = new FrameForge();
        Due.put(x, 0, 1, Due.in(1, 7), Due.in(2, 0), Due.in(21, 2), Due.in(25), Due.in(1, 1), Due.in(22));
        Due.put(x, 2, 2, Due.in(2, 0), Due.in(2, 1), Due.in(10), Due.in(22), Due.in(26), Due.in(22));
        x.row(2, 2, 3, 4, 1);
        x.branch();
        due.is("inline", 13, x.inline(0, 2));
        due.code("inline", x, 0, Due.in(1, 7), Due.in(2, 0), Due.in(3, 2), Due.in(3, 1), Due.in(2, 1), Due.in(2, 2), Due.in(10), Due.in(11, 0, 10),
            Due.in(26), Due.in(11, 0, 10), Due.in(25), Due.in(1, 1), Due.in(22));
        due.rows("inline", x, 0, Due.in(6, 7, 8, 1));
        due.is("METHOD c stays", 6, x.table(2, -1, 0));
        due.is("ARGUMENTS stay", 1, x.table(0, -1, 2));
        for (int i = -3; i <= 3; i++) {
            due.is("compare " + i, 0, x.compare(0, i, 0, 0));
        }
        x.write(0);
        due.is("PROGRAM 0 stays", 6, x.table(0, -1, 0));
    }

    private static void localsAndPlaces() {
        FrameForge x = new FrameForge();
        // f is 3, for BACK 2 names LOCAL 2.
        Due.put(x, 0, 0, Due.in(23, 0, 6), Due.in(21, 1), Due.in(12, 0, 5), Due.in(1), Due.in(22), Due.in(11, 0, 1), Due.in(3, 2), Due.in(24, 2), Due.in(11, 0, 9), Due.in(11, 0, 59));
        Due.put(x, 1, 0, Due.in(1, 5), Due.in(3, 0), Due.in(27, 0, -1), Due.in(2, 0), Due.in(12, 1, 2), Due.in(13), Due.in(17, 0, 8), Due.in(11, 0, 5),
            Due.in(14, 6), Due.in(26), Due.in(25), Due.in(21, 3), Due.in(22), Due.in(11, 0, 13));
        Due.put(x, 3, 0, Due.in(1, 1), Due.in(22));
        x.branch();
        due.is("inline", 23, x.inline(0, 1));
        due.code("inline", x, 0, Due.in(23, 0, 19), Due.in(1, 5), Due.in(3, 3), Due.in(27, 3, -1), Due.in(2, 3), Due.in(12, 1, 3), Due.in(13), Due.in(17, 0, 9), Due.in(11, 0, 6),
            Due.in(14, 6), Due.in(26), Due.in(25), Due.in(21, 3), Due.in(11, 0, 15), Due.in(11, 0, 14), Due.in(12, 0, 18), Due.in(1), Due.in(22), Due.in(11, 0, 1),
            Due.in(3, 2), Due.in(24, 2), Due.in(11, 0, 22), Due.in(11, 0, 72));
        due.is("compare", 0, x.compare(0, 0, 0, 0));
        int[][] users = {Due.in(2, 4), Due.in(3, 4), Due.in(24, 4), Due.in(27, 4, 1)};
        for (int[] user : users) {
            FrameForge y = new FrameForge();
            Due.put(y, 0, 1, Due.in(1, 8), Due.in(21, 1), Due.in(22), user);
            Due.put(y, 1, 1, Due.in(2, 0), Due.in(22));
            due.is("f by op " + user[0], 6, y.inline(0, 1));
            due.is("STORE into f", 5, y.code(0, 1, 1));
        }
        FrameForge first = new FrameForge();
        Due.put(first, 0, 3, Due.in(27, 2, 1), Due.in(21, 1), Due.in(22));
        Due.put(first, 1, 0, Due.in(1, 2), Due.in(3, 4), Due.in(2, 4), Due.in(22));
        due.is("the greatest LOCAL", 6, first.inline(0, 1));
        first.method(0, 0, false);
        Due.put(first, 0, 1, Due.in(27, 0, 1), Due.in(21, 1), Due.in(22), Due.in(27, 3, 1));
        due.is("the greatest LOCAL is too great", NONE, first.inline(0, 1));
        Due.put(first, 1, 0, Due.in(23, 0, 1), Due.in(3, 7), Due.in(1), Due.in(22));
        due.is("the greatest LOCAL at PLACE 1", NONE, first.inline(0, 1));
        int[] others = {14, 1, 21, 12};
        for (int op : others) {
            FrameForge y = new FrameForge();
            Due.put(y, 0, 0, Due.in(1, 8), Due.in(21, 1), Due.in(22), Due.in(op, 2));
            Due.put(y, 1, 1, Due.in(2, 0), Due.in(22));
            due.is("f not by op " + op, 6, y.inline(0, 1));
            due.is("STORE into 0", 0, y.code(0, 1, 1));
        }
        FrameForge three = new FrameForge();
        Due.put(three, 4, 2, Due.in(1, 1), Due.in(1, 2), Due.in(1, 3), Due.in(21, 5), Due.in(22));
        Due.put(three, 5, 3, Due.in(2, 0), Due.in(22));
        three.branch();
        due.is("three ARGUMENTS", 9, three.inline(4, 3));
        due.code("three ARGUMENTS", three, 4, Due.in(1, 1), Due.in(1, 2), Due.in(1, 3), Due.in(3, 4), Due.in(3, 3), Due.in(3, 2), Due.in(2, 2), Due.in(11, 0, 8), Due.in(22));
        due.is("compare three", 0, three.compare(4, 0, 0, 0));
    }

    private static void rows() {
        FrameForge x = new FrameForge();
        Due.put(x, 0, 0, Due.in(0), Due.in(1, 4), Due.in(21, 1), Due.in(22), Due.in(26), Due.in(22));
        x.row(0, 0, 2, 4, 1);
        x.row(0, 2, 3, 4, 2);
        x.row(0, 1, 60, 59, 3);
        x.row(0, 3, 4, 4, 4);
        Due.put(x, 1, 1, Due.in(1, 1), Due.in(2, 0), Due.in(10), Due.in(22), Due.in(26), Due.in(22));
        x.row(1, 0, 60, 4, 5);
        x.row(1, 6, 9, 50, 6);
        x.row(1, 5, 7, 4, 7);
        due.is("at that is no PLACE", WRONG, x.inline(0, 2));
        x.method(0, 0, false);
        Due.put(x, 0, 0, Due.in(0), Due.in(1, 4), Due.in(21, 1), Due.in(22), Due.in(26), Due.in(22));
        x.row(0, 0, 2, 4, 1);
        x.row(0, 2, 3, 4, 2);
        x.row(0, 1, 3, 4, 3);
        x.row(0, 3, 4, 4, 4);
        x.row(0, 10, 60, 59, 0);
        due.is("inline", 12, x.inline(0, 2));
        due.rows("those of c, then those of m", x, 0, Due.in(3, 9, 7, 5), Due.in(8, 9, 7, 7),
            Due.in(0, 2, 10, 1), Due.in(2, 9, 10, 2), Due.in(1, 9, 10, 3), Due.in(9, 10, 10, 4), Due.in(16, 66, 65, 0));
        FrameForge dead = new FrameForge();
        Due.put(dead, 0, 0, Due.in(1, 4), Due.in(21, 1), Due.in(22));
        Due.put(dead, 1, 1, Due.in(2, 0), Due.in(22), Due.in(0));
        dead.row(1, 3, 9, 50, 6);
        dead.row(1, 2, 60, 59, 7);
        due.is("ROWS of PLACES that are not come to", 6, dead.inline(0, 1));
        due.rows("ROWS of PLACES that are not come to", dead, 0, Due.in(4, 5, 61, 7));
        FrameForge same = new FrameForge();
        Due.put(same, 0, 1, Due.in(2, 0), Due.in(21, 1), Due.in(22), Due.in(26), Due.in(22));
        same.row(0, 1, 2, 3, 0);
        Due.put(same, 1, 1, Due.in(1, 9), Due.in(2, 0), Due.in(10), Due.in(22), Due.in(20));
        same.row(1, 2, 3, 4, 1);
        same.branch();
        due.is("inline with ROWS of both", 10, same.inline(0, 1));
        for (int i = 0; i < 3; i++) {
            due.is("compare with ROWS of both", 0, same.compare(0, i, 0, 0));
        }
    }

    private static final int[] load = Due.in(2, 0);
    private static final int[] end = Due.in(22);

    /** METHOD 0, whose PLACE 1 is a CALL of METHOD 1 with one ARGUMENT. */
    private static FrameForge with(boolean locked, int[]... called) {
        FrameForge x = new FrameForge();
        Due.put(x, 0, 0, Due.in(1, 4), Due.in(21, 1), end);
        Due.put(x, 1, 1, locked, called);
        return x;
    }

    private static int answer(FrameForge x, int p) {
        List<Integer> before = Due.all(x);
        int got = x.inline(0, p);
        if (got < 0) {
            due.yes("nothing is done", before.equals(Due.all(x)));
        }
        return got;
    }

    private static void noneOfThem() {
        due.is("it can be done", 5, answer(with(false, load, end), 1));
        due.is("LOCKED", NONE, answer(with(true, load, end), 1));
        int[] ops = {18, 19, 23, 24};
        for (int op : ops) {
            due.is("has " + op, NONE, answer(with(false, load, end, Due.in(op)), 1));
        }
        for (int op = 0; op < 28; op++) {
            boolean none = op == 18 || op == 19 || op == 23 || op == 24;
            due.is("has op " + op, none ? NONE : 6, answer(with(false, load, end, Due.in(op)), 1));
        }
        due.is("has ENTER at PLACE 0", WRONG, answer(with(false, Due.in(18), load, end), 1));
        due.is("has GOSUB at PLACE 0", NONE, answer(with(false, Due.in(23, 0, 1), Due.in(4), load, end), 1));
        due.is("more than x at a RETURN", NONE, answer(with(false, load, load, end), 1));
        due.is("more than x at a RETURN that is not come to", 8, answer(with(false, Due.in(11, 0, 3), load, load, load, end), 1));
        due.is("more than x at one of two", NONE, answer(with(false, load, load, Due.in(12, 0, 5), load, end, end), 1));
        due.is("no CALL", NONE, answer(with(false, load, end), 0));
        int[] places = {Integer.MIN_VALUE, -1, 3, 60, Integer.MAX_VALUE};
        for (int p : places) {
            due.is("no PLACE " + p, NONE, answer(with(false, load, end), p));
        }
        FrameForge itself = new FrameForge();
        Due.put(itself, 0, 0, Due.in(21, 0), end);
        due.is("c is m", NONE, answer(itself, 0));
        FrameForge dead = new FrameForge();
        Due.put(dead, 0, 0, Due.in(1), end, Due.in(1), Due.in(21, 1), end);
        Due.put(dead, 1, 0, Due.in(1), end);
        due.is("a CALL that may not be come to", NONE, answer(dead, 3));
        FrameForge deep = new FrameForge();
        Due.put(deep, 0, 0, Due.in(1), Due.in(1), Due.in(21, 1), Due.in(7), end);
        Due.put(deep, 1, 1, load, end);
        due.is("the STACK has more than the ARGUMENTS", NONE, answer(deep, 2));
        Due.put(deep, 1, 2, load, end);
        due.is("it has none but the ARGUMENTS, but ADD has no x", WRONG, answer(deep, 2));
        deep.change(0, 3, 0, 0, 0);
        due.is("it has none but the ARGUMENTS", 8, answer(deep, 2));
        FrameForge ownLock = new FrameForge();
        Due.put(ownLock, 0, 0, true, Due.in(14), Due.in(19), Due.in(21, 1), end);
        Due.put(ownLock, 1, 0, Due.in(1), end);
        due.is("m may be LOCKED and have locks", 5, answer(ownLock, 2));
        due.is("and stays LOCKED", 1, ownLock.table(0, -1, 3));
    }

    private static void greatestLocals() {
        for (int mine = 0; mine < 8; mine++) {
            for (int its = 0; its < 8; its++) {
                int[][] users = {Due.in(2, its), Due.in(3, its), Due.in(27, its, 1)};
                for (int[] user : users) {
                    FrameForge x = new FrameForge();
                    Due.put(x, 0, 0, Due.in(21, 1), end, Due.in(3, mine));
                    Due.put(x, 1, 0, Due.in(1), end, user);
                    due.is("LOCALS " + mine + " " + its, mine + 1 + its > 7 ? NONE : 5, answer(x, 0));
                }
            }
        }
        for (int mine = 0; mine < 8; mine++) {
            for (int arguments = 0; arguments < 4; arguments++) {
                FrameForge x = new FrameForge();
                x.method(0, 0, false);
                for (int i = 0; i < arguments; i++) {
                    x.add(0, 1, i, 0);
                }
                x.add(0, 21, 1, 0);
                x.add(0, 22, 0, 0);
                x.add(0, 3, mine, 0);
                Due.put(x, 1, arguments, Due.in(1), end);
                boolean room = mine + 1 + arguments <= 8;
                due.is("LOCAL " + mine + ", ARGUMENTS " + arguments, room ? 4 + 2 * arguments : NONE, answer(x, arguments));
            }
        }
    }

    private static void order() {
        FrameForge x = with(false, load, end);
        due.is("METHOD 6", FrameForge.REFUSED, x.inline(6, 0));
        due.is("METHOD -1", FrameForge.REFUSED, x.inline(-1, 0));
        due.is("m is WRONG", WRONG, x.inline(2, 0));
        Due.put(x, 1, 1, true, load);
        due.is("NONE without a CALL, before WRONG of c", NONE, x.inline(0, 0));
        due.is("WRONG of c, before the other NONES", WRONG, x.inline(0, 1));
        FrameForge dead = new FrameForge();
        Due.put(dead, 0, 0, Due.in(1), end, Due.in(21, 1));
        due.is("WRONG of c, though not come to", WRONG, dead.inline(0, 2));
        FrameForge other = with(false, load, end);
        other.branch();
        other.method(1, 1, false);
        due.is("c of the PROGRAM that is WRITTEN", WRONG, other.inline(0, 1));
        other.write(0);
        due.is("c of the other PROGRAM", 5, other.inline(0, 1));
    }

    private static FrameForge longOne(int mine, int its) {
        FrameForge x = new FrameForge();
        Due.put(x, 0, 0, Due.in(1), Due.in(21, 1), end);
        for (int i = 3; i < mine; i++) {
            x.add(0, 0, 0, 0);
        }
        Due.put(x, 1, 1, load, end);
        for (int i = 2; i < its; i++) {
            x.add(1, 0, 0, 0);
        }
        return x;
    }

    private static void full() {
        due.is("just 60", 60, answer(longOne(30, 30), 1));
        due.is("61", FrameForge.FULL, answer(longOne(31, 30), 1));
        due.is("61 by c", FrameForge.FULL, answer(longOne(30, 31), 1));
        due.is("many more", FrameForge.FULL, answer(longOne(60, 60), 1));
        for (int mine = 0; mine <= 8; mine++) {
            FrameForge x = longOne(10, 10);
            for (int i = 0; i < mine; i++) {
                x.row(0, 9, 10, 0, 0);
            }
            for (int i = 0; i < 4; i++) {
                x.row(1, 9, 10, 0, 0);
            }
            x.row(1, 10, 12, 0, 0);
            due.is("ROWS " + mine + " and 4", mine + 4 > 8 ? FrameForge.FULL : 20, answer(x, 1));
            due.is("how many", mine + 4 > 8 ? mine : mine + 4, x.table(0, -1, 1));
        }
    }
}
