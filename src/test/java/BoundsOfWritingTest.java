import java.util.List;

/** Promises 1 to 7, 16 and 17, sentence by sentence: the last numbers on each side of each boundary. */
final class BoundsOfWritingTest {
    private static final int MIN = Integer.MIN_VALUE;
    private static final int MAX = Integer.MAX_VALUE;
    private static final int REFUSED = FrameForge.REFUSED;
    private static final int NONE = FrameForge.NONE;
    private static final int FULL = FrameForge.FULL;
    private static final int[] NO_METHODS = {MIN, -1, 6, MAX};
    private static final Due due = new Due();

    public static void main(String[] args) {
        newObject();
        write();
        branchOfNothing();
        branchOfAllThatThereCanBe();
        method();
        methodRefused();
        addCounts();
        addMethodsAndOps();
        addA();
        addB();
        addNumbersThatAnOpHasNot();
        addFull();
        change();
        changeRefused();
        rowNumbers();
        rowFull();
        code();
        table();
        tableOfTheMethod();
        onlyWhatIsWritten();
        calls512();
        due.end();
    }

    private static void newObject() {
        FrameForge x = new FrameForge();
        due.of("PROGRAM 0 is WRITTEN");
        due.is("add", 1, x.add(0, 0, 0, 0));
        x.write(1);
        due.is("PROGRAM 1 has not got it", 0, x.table(0, -1, 0));
        x.write(0);
        due.is("PROGRAM 0 has", 1, x.table(0, -1, 0));
        due.of("in both all METHODS have no INSTRUCTIONS, no ROWS, take 0 ARGUMENTS, are not LOCKED");
        FrameForge y = new FrameForge();
        for (int p = 0; p < 2; p++) {
            y.write(p);
            for (int m = 0; m < 6; m++) {
                for (int what = 0; what < 4; what++) {
                    due.is("table(" + m + ", -1, " + what + ")", 0, y.table(m, -1, what));
                }
            }
        }
        FrameForge other = new FrameForge();
        due.is("nothing is shared with an earlier object", 0, other.table(0, -1, 0));
    }

    private static void write() {
        int[] others = {MIN, -1, 2, MAX};
        for (int p = 0; p < 2; p++) {
            FrameForge x = new FrameForge();
            due.of("PROGRAM p (0, 1) is WRITTEN from now on: true");
            due.yes("write(" + p + ")", x.write(p));
            due.yes("write(" + p + ") again", x.write(p));
            x.method(0, 1 + p, false);
            due.of("false for another number");
            for (int other : others) {
                due.no("write(" + other + ")", x.write(other));
                due.is("the same is WRITTEN", 1 + p, x.table(0, -1, 2));
            }
            x.write(1 - p);
            due.is("the other one has nothing", 0, x.table(0, -1, 2));
        }
    }

    private static void branchOfNothing() {
        FrameForge x = new FrameForge();
        x.write(1);
        fill(x, 0, 60);
        x.row(0, 0, 60, 59, 7);
        due.of("PROGRAM 1 becomes as PROGRAM 0 is, and is WRITTEN: how many INSTRUCTIONS it has in all");
        due.is("branch of nothing", 0, x.branch());
        due.is("no INSTRUCTIONS are left", 0, x.table(0, -1, 0));
        due.is("no ROWS are left", 0, x.table(0, -1, 1));
        due.is("branch of nothing again", 0, x.branch());
        x.add(0, 0, 0, 0);
        due.is("what was added to PROGRAM 1 is gone", 0, x.branch());
        x.write(0);
        x.add(5, 0, 0, 0);
        due.is("branch of one", 1, x.branch());
    }

    private static void branchOfAllThatThereCanBe() {
        FrameForge x = new FrameForge();
        for (int m = 0; m < 6; m++) {
            x.method(m, m % 4, m % 2 == 1);
            fill(x, m, 60);
        }
        for (int r = 0; r < 8; r++) {
            x.row(5, r, 60, 59 - r, r);
        }
        due.is("branch of 6 times 60", 360, x.branch());
        due.is("the last INSTRUCTION of the last METHOD", 59, x.code(5, 59, 1));
        due.is("the first INSTRUCTION of the first METHOD", 0, x.code(0, 0, 1));
        due.is("the last ROW", 52, x.table(5, 7, 2));
        due.is("its type", 7, x.table(5, 7, 3));
        due.is("ARGUMENTS", 3, x.table(3, -1, 2));
        due.is("LOCKED", 1, x.table(3, -1, 3));
        due.is("not LOCKED", 0, x.table(4, -1, 3));
        x.change(5, 59, 0, 0, 0);
        x.write(0);
        due.is("PROGRAM 0 does not follow PROGRAM 1", 1, x.code(5, 59, 0));
    }

    private static void fill(FrameForge x, int m, int count) {
        for (int i = 0; i < count; i++) {
            x.add(m, 1, i, 0);
        }
    }

    private static void method() {
        due.of("METHOD m (0 to 5) takes so many ARGUMENTS (0 to 3), is LOCKED or not");
        int[] last = {0, 5};
        for (int m : last) {
            for (int arguments = 0; arguments <= 3; arguments++) {
                FrameForge x = new FrameForge();
                due.yes("method(" + m + ", " + arguments + ", true)", x.method(m, arguments, true));
                due.is("ARGUMENTS", arguments, x.table(m, -1, 2));
                due.is("LOCKED", 1, x.table(m, -1, 3));
                due.yes("method(" + m + ", 0, false)", x.method(m, 0, false));
                due.is("no ARGUMENTS again", 0, x.table(m, -1, 2));
                due.is("not LOCKED again", 0, x.table(m, -1, 3));
            }
        }
        due.of("and has no INSTRUCTIONS and no ROWS");
        FrameForge x = new FrameForge();
        fill(x, 5, 60);
        for (int r = 0; r < 8; r++) {
            x.row(5, 0, 60, 59, r);
        }
        due.yes("method of what is full", x.method(5, 0, false));
        due.is("no INSTRUCTIONS", 0, x.table(5, -1, 0));
        due.is("no INSTRUCTION 0", NONE, x.code(5, 0, 0));
        due.is("no ROWS", 0, x.table(5, -1, 1));
        due.is("no ROW 0", NONE, x.table(5, 0, 0));
        due.is("there is room for INSTRUCTIONS", 1, x.add(5, 0, 0, 0));
        due.is("there is room for ROWS", 1, x.row(5, 0, 1, 0, 0));
    }

    private static void methodRefused() {
        FrameForge x = new FrameForge();
        for (int m = 0; m < 6; m++) {
            x.method(m, 2, true);
            x.add(m, 1, m, 0);
            x.row(m, m, 60, 9, 1);
        }
        List<Integer> before = Due.all(x);
        due.of("false if a number is not as said");
        for (int m : NO_METHODS) {
            due.no("method(" + m + ", 0, false)", x.method(m, 0, false));
        }
        int[] arguments = {MIN, -1, 4, MAX};
        for (int some : arguments) {
            due.no("method(0, " + some + ", false)", x.method(0, some, false));
            due.no("method(5, " + some + ", false)", x.method(5, some, false));
        }
        due.yes("nothing is done", before.equals(Due.all(x)));
    }

    private static void addCounts() {
        due.of("An INSTRUCTION comes to the end of METHOD m: how many it has");
        FrameForge x = new FrameForge();
        due.is("the first", 1, x.add(0, 1, 7, 0));
        due.is("the second", 2, x.add(0, 1, 8, 0));
        due.is("the first of another METHOD", 1, x.add(5, 1, 9, 0));
        due.code("METHOD 0", x, 0, Words.code("INT 7; INT 8"));
        due.code("METHOD 5", x, 5, Words.code("INT 9"));
    }

    private static void addMethodsAndOps() {
        FrameForge x = new FrameForge();
        due.of("REFUSED if m");
        for (int m : NO_METHODS) {
            due.is("add to " + m, REFUSED, x.add(m, 0, 0, 0));
        }
        due.is("add to 0", 1, x.add(0, 0, 0, 0));
        due.is("add to 5", 1, x.add(5, 0, 0, 0));
        due.of("op (0 to 27)");
        int[] others = {MIN, -1, 28, MAX};
        for (int op : others) {
            due.is("op " + op, REFUSED, x.add(1, op, 0, 0));
        }
        for (int op = 0; op < 28; op++) {
            due.is("op " + op, op + 1, x.add(1, op, 0, 0));
            due.is("op is told", op, x.code(1, op, 0));
        }
    }

    /** Of one number of an op: those that are as said, from 0 to most, and the last ones that are not. */
    private static void bounds(int op, int most, boolean isA) {
        FrameForge x = new FrameForge();
        int[] others = {MIN, -1, most + 1, MAX};
        for (int other : others) {
            due.is("op " + op + " with " + other, REFUSED, x.add(2, op, isA ? other : 0, isA ? 0 : other));
        }
        due.is("nothing came", 0, x.table(2, -1, 0));
        due.is("op " + op + " with 0", 1, x.add(2, op, 0, 0));
        due.is("op " + op + " with " + most, 2, x.add(2, op, isA ? most : 0, isA ? 0 : most));
        due.is("it is told", most, x.code(2, 1, isA ? 1 : 2));
        due.is("the other number", 0, x.code(2, 1, isA ? 2 : 1));
        for (int other : others) {
            due.no("change to op " + op + " with " + other, x.change(2, 0, op, isA ? other : 0, isA ? 0 : other));
        }
        due.is("nothing is changed", 0, x.code(2, 0, isA ? 1 : 2));
        due.yes("change to op " + op + " with " + most, x.change(2, 0, op, isA ? most : 0, isA ? 0 : most));
        due.is("it is changed", most, x.code(2, 0, isA ? 1 : 2));
    }

    private static void addA() {
        due.of("a (0 to 7 for 2, 3, 14, 24, 27");
        int[] ops = {2, 3, 14, 24, 27};
        for (int op : ops) {
            bounds(op, 7, true);
        }
        due.of("0 to 2 for 12");
        bounds(12, 2, true);
        due.of("0 to 5 for 21");
        bounds(21, 5, true);
        due.of("any int for 1)");
        int[] ints = {MIN, -1, 0, 1, MAX};
        FrameForge x = new FrameForge();
        for (int i = 0; i < ints.length; i++) {
            due.is("INT " + ints[i], i + 1, x.add(0, 1, ints[i], 0));
            due.is("it is told", ints[i], x.code(0, i, 1));
        }
    }

    private static void addB() {
        due.of("b (0 to 59 for 11, 12, 17, 23");
        int[] ops = {11, 12, 17, 23};
        for (int op : ops) {
            bounds(op, 59, false);
        }
        due.of("any int for 27)");
        int[] ints = {MIN, -1, 0, 1, MAX};
        FrameForge x = new FrameForge();
        for (int i = 0; i < ints.length; i++) {
            due.is("INC 7 " + ints[i], i + 1, x.add(0, 27, 7, ints[i]));
            due.is("it is told", ints[i], x.code(0, i, 2));
        }
        due.is("12 with both too large", REFUSED, x.add(0, 12, 3, 60));
        due.is("12 with both just not too large", ints.length + 1, x.add(0, 12, 2, 59));
    }

    private static void addNumbersThatAnOpHasNot() {
        due.of("a and b that an op has not are 0 in their stead");
        int[] withoutA = {0, 4, 5, 6, 7, 8, 9, 10, 11, 13, 15, 16, 17, 18, 19, 20, 22, 23, 25, 26};
        int[] withoutB = {0, 1, 2, 3, 4, 5, 6, 7, 8, 9, 10, 13, 14, 15, 16, 18, 19, 20, 21, 22, 24, 25, 26};
        int[] ints = {MIN, -1, 1, 60, MAX};
        for (int some : ints) {
            FrameForge x = new FrameForge();
            int count = 0;
            for (int op : withoutA) {
                due.is("op " + op + " with a " + some, count + 1, x.add(0, op, some, 0));
                due.is("a", 0, x.code(0, count, 1));
                due.yes("change to it", x.change(0, count, op, some, 0));
                due.is("a of what is changed", 0, x.code(0, count, 1));
                count++;
            }
            count = 0;
            for (int op : withoutB) {
                due.is("op " + op + " with b " + some, count + 1, x.add(1, op, 0, some));
                due.is("b", 0, x.code(1, count, 2));
                due.yes("change to it", x.change(1, count, op, 0, some));
                due.is("b of what is changed", 0, x.code(1, count, 2));
                count++;
            }
        }
    }

    private static void addFull() {
        due.of("FULL with 60");
        FrameForge x = new FrameForge();
        fill(x, 3, 58);
        due.is("the 59th", 59, x.add(3, 1, 58, 0));
        due.is("the 60th", 60, x.add(3, 1, 59, 0));
        List<Integer> before = Due.all(x);
        due.is("the 61st", FULL, x.add(3, 1, 60, 0));
        due.is("the 61st again", FULL, x.add(3, 0, 0, 0));
        due.is("REFUSED is said before FULL, by op", REFUSED, x.add(3, 28, 0, 0));
        due.is("by a", REFUSED, x.add(3, 21, 6, 0));
        due.is("by b", REFUSED, x.add(3, 11, 0, 60));
        due.yes("nothing is done", before.equals(Due.all(x)));
        due.is("there is room in another METHOD", 1, x.add(2, 0, 0, 0));
        x.write(1);
        due.is("and in the other PROGRAM", 1, x.add(3, 0, 0, 0));
    }

    private static void change() {
        due.of("INSTRUCTION i of METHOD m is another one: true");
        FrameForge x = new FrameForge();
        fill(x, 5, 60);
        due.yes("the first", x.change(5, 0, 27, 7, MIN));
        due.yes("the last", x.change(5, 59, 12, 2, 59));
        due.is("op of the first", 27, x.code(5, 0, 0));
        due.is("a of the first", 7, x.code(5, 0, 1));
        due.is("b of the first", MIN, x.code(5, 0, 2));
        due.is("op of the last", 12, x.code(5, 59, 0));
        due.is("a of the last", 2, x.code(5, 59, 1));
        due.is("b of the last", 59, x.code(5, 59, 2));
        due.is("the one behind the first", 1, x.code(5, 1, 1));
        due.is("the one before the last", 58, x.code(5, 58, 1));
        due.is("as many as before", 60, x.table(5, -1, 0));
        due.yes("a and b of the one before do not stay", x.change(5, 0, 0, 3, 3));
        due.is("a", 0, x.code(5, 0, 1));
        due.is("b", 0, x.code(5, 0, 2));
    }

    private static void changeRefused() {
        due.of("false if there is none such");
        FrameForge x = new FrameForge();
        due.no("of none", x.change(0, 0, 0, 0, 0));
        x.add(0, 1, 5, 0);
        due.yes("of one, 0", x.change(0, 0, 1, 6, 0));
        due.no("of one, 1", x.change(0, 1, 1, 6, 0));
        due.no("of one, -1", x.change(0, -1, 1, 6, 0));
        due.no("of one, least", x.change(0, MIN, 1, 6, 0));
        due.no("of one, greatest", x.change(0, MAX, 1, 6, 0));
        fill(x, 4, 60);
        due.no("of 60, 60", x.change(4, 60, 0, 0, 0));
        List<Integer> before = Due.all(x);
        due.of("or a number is not as said");
        for (int m : NO_METHODS) {
            due.no("METHOD " + m, x.change(m, 0, 0, 0, 0));
        }
        int[] others = {MIN, -1, 28, MAX};
        for (int op : others) {
            due.no("op " + op, x.change(0, 0, op, 0, 0));
        }
        due.yes("nothing is done", before.equals(Due.all(x)));
        due.yes("op 27", x.change(0, 0, 27, 0, 0));
        due.yes("op 0", x.change(0, 0, 0, 0, 0));
    }

    private static void rowNumbers() {
        FrameForge x = new FrameForge();
        due.of("REFUSED if m");
        for (int m : NO_METHODS) {
            due.is("row of " + m, REFUSED, x.row(m, 0, 1, 0, 0));
        }
        due.of("from, at (0 to 59)");
        due.is("from -1", REFUSED, x.row(0, -1, 1, 0, 0));
        due.is("from least", REFUSED, x.row(0, MIN, 1, 0, 0));
        due.is("from 60", REFUSED, x.row(0, 60, 60, 0, 0));
        due.is("from 60, to 61", REFUSED, x.row(0, 60, 61, 0, 0));
        due.is("at -1", REFUSED, x.row(0, 0, 1, -1, 0));
        due.is("at least", REFUSED, x.row(0, 0, 1, MIN, 0));
        due.is("at 60", REFUSED, x.row(0, 0, 1, 60, 0));
        due.is("at greatest", REFUSED, x.row(0, 0, 1, MAX, 0));
        due.of("to (above from, up to 60)");
        due.is("to that is from", REFUSED, x.row(0, 5, 5, 0, 0));
        due.is("to that is below from", REFUSED, x.row(0, 5, 4, 0, 0));
        due.is("to that is from, at the end", REFUSED, x.row(0, 59, 59, 0, 0));
        due.is("to 0", REFUSED, x.row(0, 0, 0, 0, 0));
        due.is("to 61", REFUSED, x.row(0, 0, 61, 0, 0));
        due.is("to greatest", REFUSED, x.row(0, 0, MAX, 0, 0));
        due.is("to least", REFUSED, x.row(0, 0, MIN, 0, 0));
        due.of("or type (0 to 7) is not as said");
        due.is("type -1", REFUSED, x.row(0, 0, 1, 0, -1));
        due.is("type 8", REFUSED, x.row(0, 0, 1, 0, 8));
        due.is("type least", REFUSED, x.row(0, 0, 1, 0, MIN));
        due.is("type greatest", REFUSED, x.row(0, 0, 1, 0, MAX));
        due.is("nothing came", 0, x.table(0, -1, 1));
        due.of("A ROW comes to the end of the TABLE of METHOD m: how many it has");
        due.is("all the least", 1, x.row(0, 0, 1, 0, 0));
        due.is("all the greatest", 2, x.row(0, 59, 60, 59, 7));
        due.is("the longest", 3, x.row(0, 0, 60, 59, 0));
        due.is("to just above from", 4, x.row(0, 5, 6, 0, 7));
        due.is("the first of METHOD 5", 1, x.row(5, 58, 59, 1, 1));
        due.rows("METHOD 0", x, 0, Due.in(0, 1, 0, 0), Due.in(59, 60, 59, 7), Due.in(0, 60, 59, 0), Due.in(5, 6, 0, 7));
        due.rows("METHOD 5", x, 5, Due.in(58, 59, 1, 1));
    }

    private static void rowFull() {
        due.of("FULL with 8");
        FrameForge x = new FrameForge();
        for (int r = 1; r <= 8; r++) {
            due.is("ROW " + r, r, x.row(4, r, 60, 59, r - 1));
        }
        List<Integer> before = Due.all(x);
        due.is("the ninth", FULL, x.row(4, 0, 1, 0, 0));
        due.is("REFUSED is said before FULL, by from", REFUSED, x.row(4, -1, 1, 0, 0));
        due.is("by to", REFUSED, x.row(4, 0, 61, 0, 0));
        due.is("by at", REFUSED, x.row(4, 0, 1, 60, 0));
        due.is("by type", REFUSED, x.row(4, 0, 1, 0, 8));
        due.yes("nothing is done", before.equals(Due.all(x)));
        due.is("there is room in another METHOD", 1, x.row(3, 0, 1, 0, 0));
    }

    private static void code() {
        FrameForge x = new FrameForge();
        x.add(5, 12, 2, 59);
        due.of("Of INSTRUCTION i of METHOD m of the PROGRAM that is WRITTEN what 0: op, 1: a, 2: b");
        int[] want = {12, 2, 59};
        for (int what = 0; what < 3; what++) {
            due.is("what " + what, want[what], x.code(5, 0, what));
        }
        due.of("REFUSED for another m or what");
        int[] whats = {MIN, -1, 3, MAX};
        for (int what : whats) {
            due.is("what " + what, REFUSED, x.code(5, 0, what));
            due.is("what " + what + " of none such", REFUSED, x.code(5, 1, what));
        }
        for (int m : NO_METHODS) {
            due.is("METHOD " + m, REFUSED, x.code(m, 0, 0));
            due.is("METHOD " + m + " of none such", REFUSED, x.code(m, -1, 0));
        }
        due.of("NONE if there is none such");
        int[] none = {MIN, -1, 1, 60, MAX};
        for (int i : none) {
            due.is("INSTRUCTION " + i, NONE, x.code(5, i, 0));
        }
        due.is("of a METHOD without any", NONE, x.code(0, 0, 2));
        fill(x, 1, 60);
        due.is("the last of 60", 59, x.code(1, 59, 1));
        due.is("the one behind it", NONE, x.code(1, 60, 1));
    }

    private static void table() {
        FrameForge x = new FrameForge();
        x.row(5, 3, 60, 59, 7);
        due.of("Of ROW i of METHOD m of the PROGRAM that is WRITTEN what 0: from, 1: to, 2: at, 3: type");
        int[] want = {3, 60, 59, 7};
        for (int what = 0; what < 4; what++) {
            due.is("what " + what, want[what], x.table(5, 0, what));
        }
        due.of("REFUSED, NONE likewise");
        int[] whats = {MIN, -1, 4, MAX};
        for (int what : whats) {
            due.is("what " + what, REFUSED, x.table(5, 0, what));
            due.is("what " + what + " with i -1", REFUSED, x.table(5, -1, what));
            due.is("what " + what + " of none such", REFUSED, x.table(5, 1, what));
        }
        for (int m : NO_METHODS) {
            due.is("METHOD " + m, REFUSED, x.table(m, 0, 0));
            due.is("METHOD " + m + " with i -1", REFUSED, x.table(m, -1, 0));
            due.is("METHOD " + m + " of none such", REFUSED, x.table(m, 8, 0));
        }
        int[] none = {MIN, -2, 1, 8, MAX};
        for (int i : none) {
            due.is("ROW " + i, NONE, x.table(5, i, 0));
        }
        due.is("of a METHOD without any", NONE, x.table(0, 0, 3));
        for (int r = 1; r < 8; r++) {
            x.row(5, r, 60, 59, r);
        }
        due.is("the last of 8", 7, x.table(5, 7, 3));
        due.is("the one behind it", NONE, x.table(5, 8, 3));
    }

    private static void tableOfTheMethod() {
        due.of("with i = -1: what 0: how many INSTRUCTIONS, 1: ROWS, 2: ARGUMENTS, 3: 1 if it is LOCKED, else 0");
        FrameForge x = new FrameForge();
        x.method(5, 3, true);
        fill(x, 5, 60);
        for (int r = 0; r < 8; r++) {
            x.row(5, 0, 1, 0, 0);
        }
        int[] most = {60, 8, 3, 1};
        for (int what = 0; what < 4; what++) {
            due.is("the most, what " + what, most[what], x.table(5, -1, what));
            due.is("the least, what " + what, 0, x.table(4, -1, what));
        }
    }

    private static void calls512() {
        due.of("at most 512 calls after it has been made");
        FrameForge x = new FrameForge();
        for (int i = 0; i < 60; i++) {
            due.is("add", i + 1, x.add(0, i < 59 ? 0 : 11, 0, 59));
        }
        for (int i = 0; i < 451; i++) {
            due.is("run", FrameForge.STOPPED, x.run(0, 0, 1000, 0, 0, 0));
        }
        due.is("call 512", 1000, x.ran(1));
    }

    private static void onlyWhatIsWritten() {
        due.of("There are two PROGRAMS, 0 and 1, one of which is WRITTEN");
        FrameForge x = new FrameForge();
        x.method(0, 1, true);
        x.add(0, 1, 4, 0);
        x.row(0, 0, 1, 0, 0);
        List<Integer> zero = Due.all(x);
        x.write(1);
        due.is("add counts anew", 1, x.add(0, 1, 9, 0));
        due.is("row counts anew", 1, x.row(0, 5, 6, 7, 1));
        due.yes("change", x.change(0, 0, 13, 0, 0));
        due.is("what is changed", 13, x.code(0, 0, 0));
        due.yes("method", x.method(0, 3, false));
        x.write(0);
        due.yes("PROGRAM 0 is as it was", zero.equals(Due.all(x)));
    }
}
