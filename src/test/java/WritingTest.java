/** Promises 1 to 7, 16 and 17: what is written, and what is told of it. */
final class WritingTest {
    private static final int MIN = Integer.MIN_VALUE;
    private static final int MAX = Integer.MAX_VALUE;
    private static final Due due = new Due();

    public static void main(String[] args) {
        newObject();
        write();
        branch();
        method();
        addTakes();
        addRefuses();
        addFull();
        change();
        row();
        code();
        table();
        due.end();
    }

    private static void newObject() {
        FrameForge x = new FrameForge();
        for (int p = 1; p >= 0; p--) {
            x.write(p);
            for (int m = 0; m < 6; m++) {
                for (int what = 0; what < 4; what++) {
                    due.is("new: program " + p + " method " + m + " fact " + what, 0, x.table(m, -1, what));
                }
                due.is("new: code", FrameForge.NONE, x.code(m, 0, 0));
                due.is("new: row", FrameForge.NONE, x.table(m, 0, 0));
            }
        }
        FrameForge y = new FrameForge();
        y.add(0, 1, 5, 0);
        y.add(0, 22, 0, 0);
        due.is("new: PROGRAM 0 is WRITTEN", 0, y.run(0, 0, 9, 0, 0, 0));
        due.is("new: PROGRAM 1 is not", FrameForge.WRONG, y.run(1, 0, 9, 0, 0, 0));
    }

    private static void write() {
        FrameForge x = new FrameForge();
        due.yes("write 1", x.write(1));
        due.is("add to 1", 1, x.add(2, 0, 0, 0));
        due.no("write 2", x.write(2));
        due.no("write -1", x.write(-1));
        due.no("write least", x.write(MIN));
        due.no("write greatest", x.write(MAX));
        due.is("1 is still WRITTEN", 1, x.table(2, -1, 0));
        due.yes("write 0", x.write(0));
        due.is("0 has none", 0, x.table(2, -1, 0));
        due.yes("write 0 again", x.write(0));
        x.write(1);
        due.is("1 has kept it", 1, x.table(2, -1, 0));
    }

    private static void branch() {
        FrameForge x = new FrameForge();
        due.is("branch of nothing", 0, x.branch());
        x.write(1);
        Due.put(x, 3, 2, true, Due.in(0), Due.in(0));
        x.row(3, 0, 1, 1, 4);
        x.write(0);
        Due.put(x, 0, 1, Due.in(1, 9), Due.in(27, 3, -7));
        Due.put(x, 5, 3, true, Due.in(12, 2, 59));
        x.row(5, 2, 60, 59, 7);
        due.is("branch", 3, x.branch());
        due.code("branch 0", x, 0, Due.in(1, 9), Due.in(27, 3, -7));
        due.code("branch 5", x, 5, Due.in(12, 2, 59));
        due.rows("branch 5", x, 5, Due.in(2, 60, 59, 7));
        due.is("branch 5 arguments", 3, x.table(5, -1, 2));
        due.is("branch 5 locked", 1, x.table(5, -1, 3));
        for (int what = 0; what < 4; what++) {
            due.is("what PROGRAM 1 had is gone", 0, x.table(3, -1, what));
        }
        x.add(0, 0, 0, 0);
        x.change(0, 0, 13, 0, 0);
        x.row(0, 0, 1, 0, 0);
        x.write(0);
        due.code("PROGRAM 0 stays", x, 0, Due.in(1, 9), Due.in(27, 3, -7));
        due.rows("PROGRAM 0 stays", x, 0);
        x.change(0, 1, 4, 0, 0);
        x.write(1);
        due.is("PROGRAM 1 stays", 27, x.code(0, 1, 0));
    }

    private static void method() {
        FrameForge x = new FrameForge();
        Due.put(x, 4, 0, Due.in(0), Due.in(1, 2));
        x.row(4, 0, 2, 1, 3);
        due.no("method -1", x.method(-1, 0, false));
        due.no("method 6", x.method(6, 0, false));
        due.no("arguments -1", x.method(4, -1, true));
        due.no("arguments 4", x.method(4, 4, true));
        due.is("nothing was done", 2, x.table(4, -1, 0));
        due.is("not locked by a refused call", 0, x.table(4, -1, 3));
        due.yes("method", x.method(4, 3, true));
        int[] facts = {0, 0, 3, 1};
        for (int what = 0; what < 4; what++) {
            due.is("method fact " + what, facts[what], x.table(4, -1, what));
        }
        due.yes("method again", x.method(4, 0, false));
        due.is("arguments again", 0, x.table(4, -1, 2));
        due.is("locked again", 0, x.table(4, -1, 3));
        due.yes("method 5", x.method(5, 0, false));
        due.yes("method 0", x.method(0, 3, false));
    }

    private static void addTakes() {
        int[] greatestA = {-1, -2, 7, 7, -1, -1, -1, -1, -1, -1, -1, -1, 2, -1, 7, -1, -1, -1, -1, -1, -1, 5, -1, -1, 7, -1, -1, 7};
        int[] greatestB = {-1, -1, -1, -1, -1, -1, -1, -1, -1, -1, -1, 59, 59, -1, -1, -1, -1, 59, -1, -1, -1, -1, -1, 59, -1, -1, -1, -2};
        for (int op = 0; op < 28; op++) {
            FrameForge x = new FrameForge();
            int[] as = numbersFor(greatestA[op]);
            int[] bs = numbersFor(greatestB[op]);
            int size = 0;
            for (int a : as) {
                for (int b : bs) {
                    boolean good = isGood(a, greatestA[op]) && isGood(b, greatestB[op]);
                    String call = "add(1, " + op + ", " + a + ", " + b + ")";
                    due.is(call, good ? size + 1 : FrameForge.REFUSED, x.add(1, op, a, b));
                    if (good) {
                        due.is(call + " op", op, x.code(1, size, 0));
                        due.is(call + " a", greatestA[op] == -1 ? 0 : a, x.code(1, size, 1));
                        due.is(call + " b", greatestB[op] == -1 ? 0 : b, x.code(1, size, 2));
                        size++;
                    }
                    due.yes("change as " + call, x.change(1, 0, op, a, b) == (good && size > 0));
                }
            }
        }
    }

    private static int[] numbersFor(int greatest) {
        return greatest < 0 ? new int[] {MIN, -1, 0, 3, MAX} : new int[] {MIN, -1, 0, greatest, greatest + 1, MAX};
    }

    private static boolean isGood(int number, int greatest) {
        return greatest < 0 || number >= 0 && number <= greatest;
    }

    private static void addRefuses() {
        FrameForge x = new FrameForge();
        int[] wrong = {MIN, -1, 28, MAX};
        for (int op : wrong) {
            due.is("add op " + op, FrameForge.REFUSED, x.add(0, op, 0, 0));
        }
        int[] wrongMethods = {MIN, -1, 6, MAX};
        for (int m : wrongMethods) {
            due.is("add to " + m, FrameForge.REFUSED, x.add(m, 0, 0, 0));
        }
        due.is("nothing was added", 0, x.table(0, -1, 0));
    }

    private static void addFull() {
        FrameForge x = new FrameForge();
        for (int i = 1; i <= 60; i++) {
            due.is("add", i, x.add(5, 1, i, 0));
        }
        due.is("add with 60", FrameForge.FULL, x.add(5, 0, 0, 0));
        due.is("REFUSED comes first", FrameForge.REFUSED, x.add(5, 2, 8, 0));
        due.is("still 60", 60, x.table(5, -1, 0));
        due.is("the last one", 60, x.code(5, 59, 1));
        due.is("another METHOD has room", 1, x.add(4, 0, 0, 0));
    }

    private static void change() {
        FrameForge x = new FrameForge();
        Due.put(x, 2, 0, Due.in(0), Due.in(27, 7, MIN), Due.in(0));
        due.yes("change", x.change(2, 1, 1, -9, 44));
        due.code("changed", x, 2, Due.in(0), Due.in(1, -9, 0), Due.in(0));
        due.no("change 3", x.change(2, 3, 0, 0, 0));
        due.no("change -1", x.change(2, -1, 0, 0, 0));
        due.no("change of METHOD 6", x.change(6, 0, 0, 0, 0));
        due.no("change of METHOD -1", x.change(-1, 0, 0, 0, 0));
        due.no("change to op 28", x.change(2, 0, 28, 0, 0));
        due.no("change to op -1", x.change(2, 0, -1, 0, 0));
        due.no("change to LOAD 8", x.change(2, 0, 2, 8, 0));
        due.no("change to GOTO 60", x.change(2, 0, 11, 0, 60));
        due.no("change of an empty METHOD", x.change(0, 0, 0, 0, 0));
        due.code("as before", x, 2, Due.in(0), Due.in(1, -9, 0), Due.in(0));
    }

    private static void row() {
        FrameForge x = new FrameForge();
        int[][] wrong = {
            {-1, 0, 1, 0, 0}, {6, 0, 1, 0, 0}, {0, -1, 1, 0, 0}, {0, 60, 61, 0, 0}, {0, 3, 3, 0, 0},
            {0, 3, 2, 0, 0}, {0, 3, 61, 0, 0}, {0, 0, 1, -1, 0}, {0, 0, 1, 60, 0}, {0, 0, 1, 0, -1},
            {0, 0, 1, 0, 8}, {0, 0, MAX, 0, 0}, {0, MIN, MAX, 0, 0}};
        for (int[] one : wrong) {
            due.is("row " + java.util.Arrays.toString(one), FrameForge.REFUSED, x.row(one[0], one[1], one[2], one[3], one[4]));
        }
        due.is("no ROW came", 0, x.table(0, -1, 1));
        due.is("row 1", 1, x.row(0, 59, 60, 59, 7));
        due.is("row 2", 2, x.row(0, 0, 1, 0, 0));
        for (int i = 3; i <= 8; i++) {
            due.is("row", i, x.row(0, i, i + 2, i + 3, i - 2));
        }
        due.is("row with 8", FrameForge.FULL, x.row(0, 0, 1, 0, 0));
        due.is("REFUSED comes first", FrameForge.REFUSED, x.row(0, 0, 0, 0, 0));
        due.rows("rows", x, 0, Due.in(59, 60, 59, 7), Due.in(0, 1, 0, 0), Due.in(3, 5, 6, 1), Due.in(4, 6, 7, 2),
            Due.in(5, 7, 8, 3), Due.in(6, 8, 9, 4), Due.in(7, 9, 10, 5), Due.in(8, 10, 11, 6));
        due.is("another METHOD has room", 1, x.row(1, 0, 60, 0, 0));
    }

    private static void code() {
        FrameForge x = Due.forge(0, Due.in(12, 2, 7));
        due.is("op", 12, x.code(0, 0, 0));
        due.is("a", 2, x.code(0, 0, 1));
        due.is("b", 7, x.code(0, 0, 2));
        due.is("what 3", FrameForge.REFUSED, x.code(0, 0, 3));
        due.is("what -1", FrameForge.REFUSED, x.code(0, 0, -1));
        due.is("METHOD 6", FrameForge.REFUSED, x.code(6, 0, 0));
        due.is("METHOD -1", FrameForge.REFUSED, x.code(-1, 0, 0));
        due.is("INSTRUCTION 1", FrameForge.NONE, x.code(0, 1, 0));
        due.is("INSTRUCTION -1", FrameForge.NONE, x.code(0, -1, 0));
        due.is("INSTRUCTION greatest", FrameForge.NONE, x.code(0, MAX, 2));
        due.is("REFUSED comes first", FrameForge.REFUSED, x.code(0, 1, 3));
        x.write(1);
        due.is("not of the other PROGRAM", FrameForge.NONE, x.code(0, 0, 0));
    }

    private static void table() {
        FrameForge x = new FrameForge();
        Due.put(x, 1, 2, true, Due.in(0), Due.in(0));
        x.row(1, 1, 3, 5, 6);
        int[] facts = {2, 1, 2, 1};
        int[] parts = {1, 3, 5, 6};
        for (int what = 0; what < 4; what++) {
            due.is("fact " + what, facts[what], x.table(1, -1, what));
            due.is("part " + what, parts[what], x.table(1, 0, what));
            due.is("ROW 1", FrameForge.NONE, x.table(1, 1, what));
            due.is("ROW -2", FrameForge.NONE, x.table(1, -2, what));
            due.is("ROW greatest", FrameForge.NONE, x.table(1, MAX, what));
        }
        int[] wrong = {MIN, -1, 4, MAX};
        for (int what : wrong) {
            due.is("what " + what, FrameForge.REFUSED, x.table(1, 0, what));
            due.is("fact " + what, FrameForge.REFUSED, x.table(1, -1, what));
            due.is("REFUSED comes first", FrameForge.REFUSED, x.table(1, 9, what));
        }
        due.is("METHOD -1", FrameForge.REFUSED, x.table(-1, 0, 0));
        due.is("METHOD 6", FrameForge.REFUSED, x.table(6, -1, 0));
        x.write(1);
        due.is("not of the other PROGRAM", FrameForge.NONE, x.table(1, 0, 0));
    }
}
