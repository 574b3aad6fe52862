/** Promises 8 and 9: THE CHECKER. */
final class CheckerTest {
    private static final int WRONG = FrameForge.WRONG;
    private static final int NONE = FrameForge.NONE;
    private static final Due due = new Due();

    public static void main(String[] args) {
        numbers();
        whatEachTakes();
        localsTaken();
        ninthValue();
        noPlaceToGoOn();
        waysMeet();
        rowsLead();
        subroutines();
        calls();
        kinds();
        due.end();
    }

    private static void numbers() {
        FrameForge x = Due.forge(0, Due.in(1), Due.in(22));
        due.is("check", 2, x.check(0));
        due.is("check of no INSTRUCTION", WRONG, x.check(1));
        due.is("check 6", FrameForge.REFUSED, x.check(6));
        due.is("check -1", FrameForge.REFUSED, x.check(-1));
        x.write(1);
        due.is("of the PROGRAM that is WRITTEN", WRONG, x.check(0));
        x.write(0);
        due.is("INSTRUCTIONS that are not come to", 3, dueCheck(0, Due.in(11, 0, 3), Due.in(4), Due.in(24, 3), Due.in(1), Due.in(22), Due.in(11, 0, 59)));
    }

    private static int dueCheck(int arguments, int[]... code) {
        return Due.forge(arguments, code).check(0);
    }

    /** The letters: i int, o OBJECT, r RETURN, from below; what stands on the STACK in front of op. */
    private static int withStack(String stack, int op, int a) {
        FrameForge x = new FrameForge();
        x.method(1, 2, false);
        x.method(0, 0, false);
        for (char kind : stack.toCharArray()) {
            int place = x.table(0, -1, 0);
            x.add(0, kind == 'i' ? 1 : kind == 'o' ? 13 : 23, 0, place + 1);
        }
        int place = x.table(0, -1, 0);
        x.add(0, op, a, place + 1);
        if (op == 24) {
            return x.check(0);
        }
        x.add(0, 13, 0, 0);
        x.add(0, 20, 0, 0);
        int answer = x.check(0);
        boolean ends = op == 20 || op == 22;
        if (answer == WRONG) {
            return WRONG;
        }
        due.is("PLACES with " + stack + " and " + op, place + (ends ? 1 : 3), answer);
        return ends ? 0 : x.kindAt(0, place + 1, -1);
    }

    private static void whatEachTakes() {
        String[] stacks = {"", "i", "o", "r", "ii", "io", "oi", "oo", "ir", "ri", "or", "ro", "rr", "iii", "oii"};
        // By op: what it takes, a for any KIND, from below, and how many it gives.
        String[] takes = {"", "", "-", "a", "a", "a", "aa", "ii", "ii", "ii", "ii", "", "i", "", "", "o", "oi", "o", "o", "o", "o", "ii", "i", "", "-", "i", "o", "-"};
        int[] gives = {0, 1, 0, 0, 0, 2, 2, 1, 1, 1, 1, 0, 0, 1, 1, 1, 0, 0, 0, 0, 0, 1, 0, 1, 0, 0, 1, 0};
        for (int op = 0; op < 28; op++) {
            if (takes[op].equals("-")) {
                continue;
            }
            for (String stack : stacks) {
                boolean good = endsIn(stack, takes[op]);
                boolean ends = op == 20 || op == 22;
                int depth = ends ? 0 : stack.length() - takes[op].length() + gives[op];
                due.is("op " + op + " with " + stack, good ? depth : WRONG, withStack(stack, op, op == 21 ? 1 : 0));
            }
        }
    }

    private static boolean endsIn(String stack, String takes) {
        if (stack.length() < takes.length()) {
            return false;
        }
        String top = stack.substring(stack.length() - takes.length());
        for (int i = 0; i < top.length(); i++) {
            if (takes.charAt(i) != 'a' && takes.charAt(i) != top.charAt(i)) {
                return false;
            }
        }
        return true;
    }

    private static void localsTaken() {
        int[] ops = {2, 27, 24};
        boolean[][] good = {{true, true, false, false}, {true, false, false, false}, {false, false, true, false}};
        int[] fillers = {1, 13, 23};
        for (int k = 0; k < 3; k++) {
            for (int kind = 0; kind < 4; kind++) {
                FrameForge x = new FrameForge();
                if (kind < 3) {
                    x.add(0, fillers[kind], 0, 2);
                    x.add(0, 0, 0, 0);
                    x.add(0, 3, 4, 0);
                } else {
                    x.add(0, 0, 0, 0);
                    x.add(0, 0, 0, 0);
                    x.add(0, 0, 0, 0);
                }
                x.add(0, ops[k], 4, 1);
                x.add(0, 13, 0, 0);
                x.add(0, 20, 0, 0);
                boolean loops = kind == 2 && k == 2;
                // Behind BACK lies the NOP, whose STORE then has no VALUE.
                due.is("op " + ops[k] + " of kind " + kind, good[k][kind] && !loops ? 6 : WRONG, x.check(0));
            }
        }
        due.is("ARGUMENTS are ints", 4, dueCheck(2, Due.in(27, 0, 1), Due.in(27, 1, 1), Due.in(2, 1), Due.in(22)));
        due.is("there is no third one", WRONG, dueCheck(2, Due.in(27, 2, 1), Due.in(1), Due.in(22)));
    }

    private static void ninthValue() {
        int[] pushers = {1, 5, 13, 14, 2, 23, 21};
        for (int op : pushers) {
            for (int count = 7; count <= 8; count++) {
                FrameForge x = new FrameForge();
                x.method(0, 1, false);
                for (int i = 0; i < count; i++) {
                    x.add(0, 1, i, 0);
                }
                x.add(0, op, op == 21 ? 1 : 0, count + 1);
                x.add(0, 4, 0, 0);
                x.add(0, 22, 0, 0);
                due.is("op " + op + " on " + count, count == 8 ? WRONG : 10, x.check(0));
            }
        }
    }

    private static void noPlaceToGoOn() {
        due.is("off the end", WRONG, dueCheck(0, Due.in(0)));
        due.is("GOTO too far", WRONG, dueCheck(0, Due.in(11, 0, 1)));
        due.is("GOTO itself", 1, dueCheck(0, Due.in(11, 0, 0)));
        due.is("IF too far", WRONG, dueCheck(0, Due.in(1), Due.in(12, 0, 4), Due.in(1), Due.in(22)));
        due.is("IF at the end", WRONG, dueCheck(0, Due.in(1), Due.in(12, 0, 0)));
        due.is("IF NULL too far", WRONG, dueCheck(0, Due.in(13), Due.in(17, 0, 4), Due.in(1), Due.in(22)));
        due.is("IF NULL at the end", WRONG, dueCheck(0, Due.in(13), Due.in(17, 0, 0)));
        due.is("GOSUB too far", WRONG, dueCheck(0, Due.in(23, 0, 2), Due.in(0)));
        due.is("GOSUB at the end, that never comes back", 4, dueCheck(0, Due.in(11, 0, 3), Due.in(1), Due.in(22), Due.in(23, 0, 1)));
        due.is("GOSUB at the end, that comes back", WRONG, dueCheck(0, Due.in(11, 0, 3), Due.in(3, 0), Due.in(24, 0), Due.in(23, 0, 1)));
        due.is("THROW at the end", 2, dueCheck(0, Due.in(13), Due.in(20)));
        due.is("CALL at the end", WRONG, dueCheck(0, Due.in(21, 0)));
    }

    private static void waysMeet() {
        due.is("STACKS of other number", WRONG, dueCheck(1, Due.in(2, 0), Due.in(12, 0, 3), Due.in(1), Due.in(1), Due.in(22)));
        due.is("STACKS of other KINDS", WRONG, dueCheck(1, Due.in(2, 0), Due.in(12, 0, 4), Due.in(1), Due.in(11, 0, 5), Due.in(13), Due.in(4), Due.in(1), Due.in(22)));
        due.is("STACKS of the same KINDS", 7, dueCheck(1, Due.in(2, 0), Due.in(12, 0, 4), Due.in(1), Due.in(11, 0, 5), Due.in(1), Due.in(4), Due.in(11, 0, 6)));
        due.is("RETURNS of other PLACES", WRONG, dueCheck(1, Due.in(2, 0), Due.in(12, 0, 3), Due.in(23, 0, 4), Due.in(23, 0, 5), Due.in(0), Due.in(4), Due.in(1), Due.in(22)));
        FrameForge x = Due.forge(1, Due.in(2, 0), Due.in(12, 0, 6), Due.in(1), Due.in(3, 1), Due.in(13), Due.in(3, 2), Due.in(13), Due.in(3, 2), Due.in(1), Due.in(22));
        due.is("LOCALS that differ", 10, x.check(0));
        due.is("LOCAL of one way", NONE, x.kindAt(0, 6, 11));
        due.is("LOCAL of one way, of the other", NONE, x.kindAt(0, 6, 12));
        due.is("LOCAL before", 0, x.kindAt(0, 5, 11));
        due.is("LOCAL of all ways", 1, x.kindAt(0, 8, 12));
        due.is("LOCAL 0 of all ways", 0, x.kindAt(0, 8, 10));
        x.change(0, 8, 2, 1, 0);
        due.is("LOAD of what is not there by all ways", WRONG, x.check(0));
        FrameForge loop = Due.forge(1, Due.in(27, 0, -1), Due.in(13), Due.in(3, 1), Due.in(2, 0), Due.in(12, 1, 0), Due.in(2, 0), Due.in(22));
        due.is("a loop to PLACE 0", 7, loop.check(0));
        due.is("where one begins it has nothing", NONE, loop.kindAt(0, 0, 11));
        due.is("though the loop has it", 1, loop.kindAt(0, 4, 11));
        loop.change(0, 2, 3, 0, 0);
        due.is("a loop that takes the int away", WRONG, loop.check(0));
        FrameForge late = Due.forge(1, Due.in(1), Due.in(3, 1), Due.in(0), Due.in(0), Due.in(2, 1), Due.in(25), Due.in(13), Due.in(3, 1), Due.in(11, 0, 2));
        due.is("a loop that takes the int away further on", WRONG, late.check(0));
        late.change(0, 7, 4, 0, 0);
        due.is("a loop that leaves it", 9, late.check(0));
        late.change(0, 4, 1, 0, 0);
        late.change(0, 7, 3, 1, 0);
        due.is("a loop that takes away what is not needed", 9, late.check(0));
        due.is("it is not there in the loop", NONE, late.kindAt(0, 4, 11));
        due.is("it is there before", NONE, late.kindAt(0, 1, 11));
    }

    private static void rowsLead() {
        FrameForge x = Due.forge(1, Due.in(13), Due.in(3, 0), Due.in(1), Due.in(22), Due.in(20));
        due.is("without a ROW", 4, x.check(0));
        x.row(0, 1, 2, 4, 7);
        due.is("with a ROW", 5, x.check(0));
        due.is("the STACK of a ROW", 1, x.kindAt(0, 4, -1));
        due.is("the KIND on it", 1, x.kindAt(0, 4, 0));
        due.is("LOCALS as before", 0, x.kindAt(0, 4, 10));
        x.row(0, 2, 3, 4, 0);
        due.is("LOCALS of both ROWS", NONE, x.kindAt(0, 4, 10));
        x.row(0, 4, 60, 5, 0);
        due.is("at is no PLACE", WRONG, x.check(0));
        FrameForge y = Due.forge(0, Due.in(1), Due.in(22), Due.in(0));
        y.row(0, 2, 60, 59, 0);
        due.is("a ROW of PLACES that are not come to", 2, y.check(0));
        y.row(0, 1, 2, 2, 0);
        due.is("RETURN leads to ROWS too", WRONG, y.check(0));
        y.method(0, 0, false);
        y.add(0, 13, 0, 0);
        y.add(0, 20, 0, 0);
        y.row(0, 1, 2, 1, 0);
        due.is("a ROW that leads to its own PLACE", 2, y.check(0));
        y.row(0, 0, 1, 0, 0);
        due.is("STACKS that differ by a ROW", WRONG, y.check(0));
        FrameForge z = Due.forge(0, Due.in(0), Due.in(0), Due.in(1), Due.in(22), Due.in(20));
        z.row(0, 1, 2, 4, 3);
        due.is("a NOP leads to ROWS too", 5, z.check(0));
        FrameForge edge = Due.forge(0, Due.in(11, 0, 2), Due.in(0), Due.in(1), Due.in(22), Due.in(20));
        edge.row(0, 1, 2, 4, 3);
        due.is("neither from - 1 nor to is a PLACE of a ROW", 3, edge.check(0));
    }

    private static void subroutines() {
        // 0 GOSUB 4, 1 GOSUB 4, 2 LOAD 0, 3 RETURN, 4 STORE 5, 5 INC, 6 BACK 5
        FrameForge x = Due.forge(1, Due.in(23, 0, 4), Due.in(23, 0, 4), Due.in(2, 0), Due.in(22), Due.in(3, 5), Due.in(27, 0, 3), Due.in(24, 5));
        due.is("two GOSUBS", 7, x.check(0));
        due.is("RETURN on the STACK", 14, x.kindAt(0, 4, 0));
        due.is("RETURN in a LOCAL", 14, x.kindAt(0, 5, 15));
        due.is("it is there still, behind", 14, x.kindAt(0, 2, 15));
        due.is("LOAD of it", WRONG, changed(x, 2, 2, 5, 0));
        x.change(0, 2, 2, 0, 0);
        due.is("BACK of another LOCAL", WRONG, changed(x, 6, 24, 4, 0));
        x.change(0, 6, 24, 5, 0);
        due.is("BACK again, by the same RETURN", 6, changed(x, 2, 24, 5, 0));
        // The first GOSUB is reached only behind the second one's BACK.
        FrameForge y = Due.forge(0, Due.in(11, 0, 5), Due.in(23, 0, 3), Due.in(11, 0, 7), Due.in(3, 1), Due.in(24, 1), Due.in(23, 0, 3), Due.in(11, 0, 1), Due.in(1), Due.in(22));
        due.is("a GOSUB that is come to late", 9, y.check(0));
        y.change(0, 6, 11, 0, 7);
        due.is("a GOSUB that is not come to", 7, y.check(0));
        due.is("and what is behind it", NONE, y.kindAt(0, 2, -1));
        // What a subroutine stores is behind all of its GOSUBS.
        FrameForge z = Due.forge(0, Due.in(23, 0, 5), Due.in(2, 0), Due.in(25), Due.in(1), Due.in(22), Due.in(3, 7), Due.in(1, 3), Due.in(3, 0), Due.in(24, 7));
        due.is("what a subroutine stores", 9, z.check(0));
        due.is("is there behind", 0, z.kindAt(0, 1, 10));
        // The STACK below the RETURN is kept.
        FrameForge s = Due.forge(0, Due.in(1, 8), Due.in(23, 0, 3), Due.in(22), Due.in(3, 0), Due.in(24, 0));
        due.is("the STACK of a subroutine", 5, s.check(0));
        due.is("how many", 2, s.kindAt(0, 3, -1));
        due.is("the lower one", 0, s.kindAt(0, 3, 0));
        due.is("the upper one", 13, s.kindAt(0, 3, 1));
        FrameForge t = Due.forge(0, Due.in(23, 0, 4), Due.in(1), Due.in(23, 0, 4), Due.in(22), Due.in(3, 0), Due.in(24, 0));
        due.is("GOSUBS with other STACKS", WRONG, t.check(0));
        FrameForge nested = Due.forge(0, Due.in(23, 0, 3), Due.in(1), Due.in(22), Due.in(3, 1), Due.in(23, 0, 6), Due.in(24, 1), Due.in(3, 2), Due.in(24, 2));
        due.is("a subroutine in a subroutine", 8, nested.check(0));
        due.is("the outer RETURN", 13, nested.kindAt(0, 7, 11));
        due.is("the inner RETURN", 16, nested.kindAt(0, 7, 12));
    }

    private static int changed(FrameForge x, int i, int op, int a, int b) {
        x.change(0, i, op, a, b);
        return x.check(0);
    }

    private static void calls() {
        FrameForge x = Due.forge(0, Due.in(1), Due.in(1), Due.in(21, 3), Due.in(22));
        due.is("CALL that takes none", 4, x.check(0));
        due.is("gives one more", 3, x.kindAt(0, 3, -1));
        x.method(3, 2, false);
        due.is("CALL that takes two", 4, x.check(0));
        due.is("gives one for them", 1, x.kindAt(0, 3, -1));
        x.method(3, 3, false);
        due.is("CALL that takes three", WRONG, x.check(0));
        x.method(3, 2, false);
        x.change(0, 0, 13, 0, 0);
        due.is("CALL takes ints", WRONG, x.check(0));
        x.method(3, 1, false);
        due.is("one int of it", 4, x.check(0));
        due.is("the OBJECT stays", 1, x.kindAt(0, 3, 0));
        due.is("the VALUE is an int", 0, x.kindAt(0, 3, 1));
    }

    private static void kinds() {
        FrameForge x = Due.forge(1, Due.in(1), Due.in(14, 3), Due.in(6), Due.in(5), Due.in(22), Due.in(0));
        due.is("check", 5, x.check(0));
        int[][] want = {{0}, {1, 0}, {2, 0, 1}, {2, 1, 0}, {3, 1, 0, 0}};
        for (int p = 0; p < 5; p++) {
            due.is("how many at " + p, want[p][0], x.kindAt(0, p, -1));
            for (int i = 0; i < 8; i++) {
                due.is("KIND " + i + " at " + p, i < want[p][0] ? want[p][i + 1] : NONE, x.kindAt(0, p, i));
            }
        }
        due.is("LOCAL 0", 0, x.kindAt(0, 0, 10));
        due.is("LOCAL 1", NONE, x.kindAt(0, 0, 11));
        due.is("LOCAL 7", NONE, x.kindAt(0, 0, 17));
        int[] wrong = {Integer.MIN_VALUE, -2, 8, 9, 18, Integer.MAX_VALUE};
        for (int what : wrong) {
            due.is("what " + what, FrameForge.REFUSED, x.kindAt(0, 0, what));
            due.is("REFUSED comes first", FrameForge.REFUSED, x.kindAt(1, 99, what));
        }
        due.is("METHOD 6", FrameForge.REFUSED, x.kindAt(6, 0, 0));
        due.is("METHOD -1", FrameForge.REFUSED, x.kindAt(-1, 0, 0));
        int[] places = {Integer.MIN_VALUE, -1, 5, 6, 60, Integer.MAX_VALUE};
        for (int p : places) {
            due.is("PLACE " + p, NONE, x.kindAt(0, p, -1));
        }
        due.is("a METHOD that is WRONG", NONE, x.kindAt(1, 0, -1));
        x.change(0, 4, 4, 0, 0);
        due.is("WRONG further on", NONE, x.kindAt(0, 0, 10));
        FrameForge far = Due.forge(0, Due.in(11, 0, 1));
        for (int i = 1; i < 59; i++) {
            far.add(0, 11, 0, i + 1);
        }
        far.add(0, 23, 0, 59);
        due.is("without an end the STACK grows", WRONG, far.check(0));
        far.method(0, 0, false);
        far.add(0, 23, 0, 59);
        for (int i = 1; i < 59; i++) {
            far.add(0, 0, 0, 0);
        }
        far.add(0, 11, 0, 59);
        due.is("the last PLACE", 2, far.check(0));
        due.is("RETURN of PLACE 59", 69, far.kindAt(0, 59, 0));
    }
}
