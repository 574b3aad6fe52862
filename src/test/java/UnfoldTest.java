import java.util.List;

/** Promise 14: unfold. */
final class UnfoldTest {
    private static final int NONE = FrameForge.NONE;
    private static final Due due = new Due();

    public static void main(String[] args) {
        ordinary();
        nothingBetween();
        subroutineInFront();
        placesInTheCopy();
        placesOutside();
        rowsSplit();
        rowsWithoutPlaces();
        rowsBeyondTheEnd();
        notPlain();
        answers();
        full();
        due.end();
    }

    /** The METHOD that most tests here begin with. */
    private static FrameForge plain() {
        return Due.forge(1, Due.in(23, 0, 4), Due.in(23, 0, 4), Due.in(2, 0), Due.in(22), Due.in(3, 5), Due.in(27, 0, 3), Due.in(27, 0, 4), Due.in(24, 5));
    }

    private static void ordinary() {
        FrameForge x = plain();
        x.branch();
        due.is("unfold", 9, x.unfold(0, 1));
        due.code("unfold", x, 0, Due.in(23, 0, 5), Due.in(27, 0, 3), Due.in(27, 0, 4), Due.in(2, 0), Due.in(22),
            Due.in(3, 5), Due.in(27, 0, 3), Due.in(27, 0, 4), Due.in(24, 5));
        due.is("compare", 0, x.compare(0, 9, 0, 0));
        due.is("arguments stay", 1, x.table(0, -1, 2));
        due.is("the other one", 10, x.unfold(0, 0));
        due.code("both", x, 0, Due.in(27, 0, 3), Due.in(27, 0, 4), Due.in(27, 0, 3), Due.in(27, 0, 4), Due.in(2, 0), Due.in(22),
            Due.in(3, 5), Due.in(27, 0, 3), Due.in(27, 0, 4), Due.in(24, 5));
        due.is("compare both", 0, x.compare(0, 9, 0, 0));
        due.is("VALUE", 23, x.ran(0));
        due.is("no GOSUB is left", NONE, x.unfold(0, 0));
        x.write(0);
        due.is("PROGRAM 0 is as it was", 8, x.table(0, -1, 0));
    }

    private static void nothingBetween() {
        FrameForge x = Due.forge(1, Due.in(2, 0), Due.in(12, 0, 4), Due.in(0), Due.in(11, 0, 4), Due.in(23, 0, 7), Due.in(1), Due.in(22), Due.in(3, 2), Due.in(24, 2));
        x.row(0, 4, 5, 5, 0);
        x.change(0, 5, 11, 0, 5);
        due.is("the ROW is not right", FrameForge.WRONG, x.unfold(0, 4));
        x = Due.forge(1, Due.in(2, 0), Due.in(12, 0, 4), Due.in(0), Due.in(11, 0, 4), Due.in(23, 0, 7), Due.in(1), Due.in(22), Due.in(3, 2), Due.in(24, 2), Due.in(20));
        x.row(0, 4, 5, 9, 0);
        x.row(0, 3, 6, 9, 1);
        due.is("nothing between", 9, x.unfold(0, 4));
        due.code("nothing between", x, 0, Due.in(2, 0), Due.in(12, 0, 4), Due.in(0), Due.in(11, 0, 4), Due.in(1), Due.in(22), Due.in(3, 2), Due.in(24, 2), Due.in(20));
        due.rows("nothing between", x, 0, Due.in(3, 4, 8, 1), Due.in(4, 5, 8, 1));
    }

    private static void subroutineInFront() {
        FrameForge x = Due.forge(1, Due.in(11, 0, 6), Due.in(3, 7), Due.in(2, 0), Due.in(12, 2, 5), Due.in(27, 0, -1), Due.in(24, 7),
            Due.in(23, 0, 1), Due.in(23, 0, 1), Due.in(2, 0), Due.in(22));
        x.branch();
        due.is("unfold", 12, x.unfold(0, 6));
        due.code("in front", x, 0, Due.in(11, 0, 6), Due.in(3, 7), Due.in(2, 0), Due.in(12, 2, 5), Due.in(27, 0, -1), Due.in(24, 7),
            Due.in(2, 0), Due.in(12, 2, 9), Due.in(27, 0, -1), Due.in(23, 0, 1), Due.in(2, 0), Due.in(22));
        for (int i = -2; i <= 3; i++) {
            due.is("compare " + i, 0, x.compare(0, i, 0, 0));
        }
    }

    private static void placesInTheCopy() {
        // b + 1 becomes p, e the PLACE behind; RETURN and THROW may stand in it.
        FrameForge x = Due.forge(1, Due.in(0), Due.in(23, 0, 4), Due.in(2, 0), Due.in(22), Due.in(3, 1), Due.in(27, 0, -1), Due.in(2, 0), Due.in(12, 1, 5),
            Due.in(13), Due.in(17, 0, 12), Due.in(1, 5), Due.in(22), Due.in(24, 1));
        x.branch();
        due.is("unfold", 19, x.unfold(0, 1));
        due.code("in the copy", x, 0, Due.in(0), Due.in(27, 0, -1), Due.in(2, 0), Due.in(12, 1, 1), Due.in(13), Due.in(17, 0, 8), Due.in(1, 5), Due.in(22),
            Due.in(2, 0), Due.in(22), Due.in(3, 1), Due.in(27, 0, -1), Due.in(2, 0), Due.in(12, 1, 11), Due.in(13), Due.in(17, 0, 18), Due.in(1, 5), Due.in(22), Due.in(24, 1));
        due.is("compare", 0, x.compare(0, 5, 0, 0));
    }

    private static void placesOutside() {
        // PLACES up to p stay, those above it become n - 1 more, and so do such as are no PLACE.
        FrameForge x = Due.forge(1, Due.in(2, 0), Due.in(12, 2, 3), Due.in(23, 0, 9), Due.in(23, 0, 9), Due.in(2, 0), Due.in(12, 0, 7), Due.in(11, 0, 7),
            Due.in(2, 0), Due.in(22), Due.in(3, 1), Due.in(0), Due.in(0), Due.in(24, 1), Due.in(11, 0, 3), Due.in(11, 0, 2), Due.in(11, 0, 4), Due.in(23, 0, 59), Due.in(17, 0, 58));
        x.branch();
        due.is("unfold", 19, x.unfold(0, 3));
        due.code("outside", x, 0, Due.in(2, 0), Due.in(12, 2, 3), Due.in(23, 0, 10), Due.in(0), Due.in(0), Due.in(2, 0), Due.in(12, 0, 8), Due.in(11, 0, 8),
            Due.in(2, 0), Due.in(22), Due.in(3, 1), Due.in(0), Due.in(0), Due.in(24, 1), Due.in(11, 0, 3), Due.in(11, 0, 2), Due.in(11, 0, 5), Due.in(23, 0, 60), Due.in(17, 0, 59));
        due.is("compare", 0, x.compare(0, 5, 0, 0));
    }

    /** 0 to 2 NOP, 3 GOSUB 6, 4 INT, 5 RETURN, 6 STORE, 7 to 9 NOP, 10 BACK, 11 THROW. */
    private static FrameForge withRow(int from, int to, int at) {
        FrameForge x = Due.forge(0, Due.in(0), Due.in(0), Due.in(0), Due.in(23, 0, 6), Due.in(1), Due.in(22), Due.in(3, 1), Due.in(0), Due.in(0), Due.in(0), Due.in(24, 1), Due.in(20));
        x.row(0, from, to, at, 5);
        return x;
    }

    private static void rowsSplit() {
        // The copy lies at 3 to 5; what was above 3 is 2 more.
        int[][][] cases = {
            {{0, 3}, {0, 3}},
            {{1, 4}, {1, 3}},
            {{3, 4}},
            {{3, 5}, {6, 7}},
            {{0, 12}, {0, 3}, {3, 6}, {6, 14}},
            {{6, 11}, {3, 6}, {8, 13}},
            {{7, 8}, {3, 4}, {9, 10}},
            {{9, 10}, {5, 6}, {11, 12}},
            {{8, 11}, {4, 6}, {10, 13}},
            {{10, 11}, {12, 13}},
            {{6, 7}, {8, 9}},
            {{4, 6}, {6, 8}},
            {{2, 8}, {2, 3}, {3, 4}, {6, 10}},
            {{3, 8}, {3, 4}, {6, 10}}};
        for (int[][] one : cases) {
            FrameForge x = withRow(one[0][0], one[0][1], 11);
            due.is("unfold with a ROW", 14, x.unfold(0, 3));
            int[][] want = new int[one.length - 1][];
            for (int i = 1; i < one.length; i++) {
                want[i - 1] = Due.in(one[i][0], one[i][1], 13, 5);
            }
            due.rows("ROW " + one[0][0] + " to " + one[0][1], x, 0, want);
        }
        FrameForge several = withRow(1, 9, 11);
        several.row(0, 9, 10, 11, 2);
        several.row(0, 0, 1, 11, 0);
        due.is("unfold with ROWS", 14, several.unfold(0, 3));
        due.rows("in order", several, 0, Due.in(1, 3, 13, 5), Due.in(3, 5, 13, 5), Due.in(6, 11, 13, 5), Due.in(5, 6, 13, 2), Due.in(11, 12, 13, 2), Due.in(0, 1, 13, 0));
        // at of a ROW that is p stays p.
        FrameForge at = Due.forge(0, Due.in(13), Due.in(23, 0, 4), Due.in(20), Due.in(0), Due.in(3, 1), Due.in(0), Due.in(0), Due.in(24, 1));
        at.row(0, 2, 4, 1, 4);
        due.is("at that is p, unfold", 9, at.unfold(0, 1));
        due.rows("at that is p", at, 0, Due.in(3, 5, 1, 4));
    }

    private static void rowsWithoutPlaces() {
        FrameForge x = withRow(3, 4, 11);
        x.row(0, 0, 1, 11, 1);
        due.is("unfold", 14, x.unfold(0, 3));
        due.rows("a ROW of p alone is none", x, 0, Due.in(0, 1, 13, 1));
    }

    private static void rowsBeyondTheEnd() {
        FrameForge x = withRow(4, 60, 11);
        x.row(0, 30, 40, 50, 1);
        due.is("unfold", 14, x.unfold(0, 3));
        due.rows("beyond the end", x, 0, Due.in(3, 6, 13, 5), Due.in(6, 62, 13, 5), Due.in(32, 42, 52, 1));
    }

    private static int unfoldOf(int p, int[]... code) {
        FrameForge x = Due.forge(1, code);
        List<Integer> before = Due.all(x);
        int answer = x.unfold(0, p);
        if (answer < 0) {
            due.yes("nothing is done", before.equals(Due.all(x)));
        }
        return answer;
    }

    private static void notPlain() {
        int[] go = Due.in(23, 0, 3);
        int[] one = Due.in(1);
        int[] end = Due.in(22);
        int[] st = Due.in(3, 1);
        int[] back = Due.in(24, 1);
        int[] nop = Due.in(0);
        due.is("PLAIN", 6, unfoldOf(0, go, one, end, st, nop, back));
        due.is("no STORE at b", NONE, unfoldOf(0, go, one, end, nop, st, back));
        due.is("no BACK", NONE, unfoldOf(0, go, one, end, st, one, end));
        due.is("BACK of another LOCAL", NONE, unfoldOf(0, go, one, end, Due.in(5), Due.in(3, 2), st, Due.in(24, 2)));
        due.is("STORE, then BACK of another LOCAL first", NONE, unfoldOf(0, go, one, end, st, Due.in(23, 0, 6), back, Due.in(3, 2), Due.in(24, 2)));
        due.is("a GOSUB between", NONE, unfoldOf(0, go, one, end, st, Due.in(23, 0, 6), back, Due.in(3, 2), Due.in(24, 2)));
        due.is("the one that is CALLED there is PLAIN", 7, unfoldOf(4, go, one, end, st, Due.in(23, 0, 6), back, Due.in(3, 2), Due.in(24, 2)));
        due.is("LOAD of r, not come to", NONE, unfoldOf(0, go, one, end, st, Due.in(11, 0, 6), Due.in(2, 1), back));
        due.is("STORE of r, not come to", NONE, unfoldOf(0, go, one, end, st, Due.in(11, 0, 6), Due.in(3, 1), back));
        due.is("INC of r, not come to", NONE, unfoldOf(0, go, one, end, st, Due.in(11, 0, 6), Due.in(27, 1, 1), back));
        due.is("LOAD, STORE, INC of others", 12, unfoldOf(0, go, one, end, st, Due.in(2, 0), Due.in(3, 2), Due.in(27, 2, 1), nop, back));
        due.is("GOTO to e", 8, unfoldOf(0, go, one, end, st, Due.in(11, 0, 6), nop, back));
        due.is("GOTO to b + 1", 8, unfoldOf(0, go, one, end, st, Due.in(11, 0, 4), nop, back));
        due.is("GOTO to b, not come to", NONE, unfoldOf(0, go, one, end, st, Due.in(11, 0, 6), Due.in(11, 0, 3), back));
        due.is("GOTO below b", NONE, unfoldOf(0, go, one, end, st, Due.in(11, 0, 1), back));
        due.is("GOTO above e", NONE, unfoldOf(0, go, one, end, st, Due.in(11, 0, 7), nop, back, one, end));
        due.is("IF above e", NONE, unfoldOf(0, go, one, end, st, Due.in(2, 0), Due.in(12, 0, 7), back, one, end));
        due.is("IF NULL above e", NONE, unfoldOf(0, go, one, end, st, Due.in(13), Due.in(17, 0, 7), back, one, end));
        due.is("GOTO to b from elsewhere, not come to", NONE, unfoldOf(0, go, one, end, st, nop, back, Due.in(11, 0, 3)));
        due.is("GOTO to e from elsewhere, not come to", NONE, unfoldOf(0, go, one, end, st, nop, back, Due.in(11, 0, 5)));
        due.is("IF to b + 1 from elsewhere, not come to", NONE, unfoldOf(0, go, one, end, st, nop, back, Due.in(12, 0, 4)));
        due.is("IF NULL to b + 1 from elsewhere, not come to", NONE, unfoldOf(0, go, one, end, st, nop, back, Due.in(17, 0, 4)));
        due.is("GOTO beside it", 8, unfoldOf(0, go, one, end, st, nop, back, Due.in(11, 0, 2), Due.in(11, 0, 6)));
        due.is("GOSUB to e from elsewhere", 7, unfoldOf(0, go, one, end, st, nop, back, Due.in(23, 0, 5)));
        due.is("CALL, RETURN of others between", 8, unfoldOf(0, go, one, end, st, one, end, back));
        due.is("GOTO at PLACE 0 to b + 1", NONE, unfoldOf(1, Due.in(11, 0, 4), go, nop, st, one, end, back));
        due.is("an end in the last PLACE but no BACK", NONE, unfoldOf(0, go, one, end, st, Due.in(11, 0, 4)));
        int[] ats = {2, 3, 4, 5, 6};
        for (int at : ats) {
            FrameForge x = Due.forge(0, Due.in(23, 0, 3), one, end, st, nop, back, Due.in(20), nop);
            x.row(0, 7, 8, at, 0);
            due.is("a ROW with at " + at, at >= 3 && at <= 5 ? NONE : 8, x.unfold(0, 0));
        }
    }

    private static void answers() {
        FrameForge x = plain();
        due.is("METHOD 6", FrameForge.REFUSED, x.unfold(6, 0));
        due.is("METHOD -1", FrameForge.REFUSED, x.unfold(-1, 0));
        due.is("a METHOD without INSTRUCTIONS", FrameForge.WRONG, x.unfold(1, 0));
        int[] places = {Integer.MIN_VALUE, -1, 2, 4, 7, 8, 60, Integer.MAX_VALUE};
        for (int p : places) {
            due.is("no GOSUB at " + p, NONE, x.unfold(0, p));
        }
        x.change(0, 3, 4, 0, 0);
        due.is("WRONG", FrameForge.WRONG, x.unfold(0, 0));
        due.is("WRONG before NONE", FrameForge.WRONG, x.unfold(0, 99));
        FrameForge far = Due.forge(0, Due.in(1), Due.in(22), Due.in(23, 0, 59));
        due.is("b is no PLACE", NONE, far.unfold(0, 2));
        // A GOSUB that is not come to is written out all the same.
        FrameForge dead = Due.forge(0, Due.in(1), Due.in(22), Due.in(23, 0, 3), Due.in(3, 0), Due.in(0), Due.in(0), Due.in(24, 0));
        due.is("a GOSUB that is not come to", 8, dead.unfold(0, 2));
        FrameForge other = plain();
        other.write(1);
        due.is("of the PROGRAM that is WRITTEN", FrameForge.WRONG, other.unfold(0, 0));
    }

    private static FrameForge longOne(int nops) {
        FrameForge x = Due.forge(0, Due.in(23, 0, 3), Due.in(1), Due.in(22), Due.in(3, 0));
        for (int i = 0; i < nops; i++) {
            x.add(0, 0, 0, 0);
        }
        x.add(0, 24, 0, 0);
        return x;
    }

    private static void full() {
        due.is("just 60", 60, longOne(28).unfold(0, 0));
        FrameForge x = longOne(29);
        List<Integer> before = Due.all(x);
        due.is("62", FrameForge.FULL, x.unfold(0, 0));
        due.yes("nothing is done", before.equals(Due.all(x)));
        FrameForge odd = longOne(28);
        odd.add(0, 0, 0, 0);
        due.is("61", FrameForge.FULL, odd.unfold(0, 0));
        FrameForge rows = withRow(0, 12, 11);
        for (int i = 0; i < 4; i++) {
            rows.row(0, 0, 1, 11, i);
        }
        FrameForge nine = withRow(0, 12, 11);
        for (int i = 0; i < 6; i++) {
            nine.row(0, 0, 1, 11, i);
        }
        List<Integer> nineBefore = Due.all(nine);
        due.is("9 ROWS", FrameForge.FULL, nine.unfold(0, 3));
        due.yes("nothing is done with 9 ROWS", nineBefore.equals(Due.all(nine)));
        rows.row(0, 3, 4, 11, 0);
        rows.row(0, 5, 6, 11, 0);
        due.is("8 ROWS", 14, rows.unfold(0, 3));
        due.is("8 of them", 8, rows.table(0, -1, 1));
    }
}
