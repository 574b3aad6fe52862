/** "Terms", sentence by sentence: VALUES, INSTRUCTIONS, what is THROWN, locks, THE TRACE. */
final class BoundsOfValuesTest {
    private static final int MIN = Integer.MIN_VALUE;
    private static final int MAX = Integer.MAX_VALUE;
    private static final int NONE = FrameForge.NONE;
    private static final int WRONG = FrameForge.WRONG;
    private static final int BY_ZERO = 16 + 1 - 1000;
    private static final int BY_NULL = 16 + 2 - 1000;
    private static final Due due = new Due();

    public static void main(String[] args) {
        numbersOfObjects();
        locals();
        stack();
        plainOnes();
        whichIsX();
        wrapping();
        divisionByZero();
        conditions();
        newObjects();
        items();
        ifNull();
        arguments();
        calls();
        returns();
        subroutines();
        types();
        thrownByNull();
        thrownByLeave();
        thrownByDepth();
        whichRow();
        whatARowDoes();
        framesThatEnd();
        locksThatAreLeft();
        lockedMethods();
        said();
        sorts();
        due.end();
    }

    private static void runs(String what, FrameForge x, int ending, int value) {
        due.is(what, ending, x.run(0, 0, 1000, 0, 0, 0));
        due.is(what + ", VALUE", value, x.ran(0));
    }

    private static void numbersOfObjects() {
        due.of("OBJECTS (numbers 1, 2, .. as they are made in a run)");
        FrameForge x = Words.forge(0, "INT 1; INT 0; DIV; RETURN; DUP; ENTER; LEAVE; NEW 3; DUP; ENTER; LEAVE; INT 0; RETURN");
        x.row(0, 2, 3, 4, 1);
        for (int i = 0; i < 2; i++) {
            runs("run " + i, x, 0, 0);
            due.trace("the one that is THROWN is 1, the next one is 2", x, 17, 20, 21, 18, 19, 49, 34, 35);
            due.is("OBJECTS made", 2, x.ran(2));
        }
        FrameForge most = Words.forge(0, "NEW 0; LEAVE; INT 0; RETURN");
        most.row(0, 1, 2, 1, 3);
        due.is("each INSTRUCTION makes one", FrameForge.STOPPED, most.run(0, 0, 1000, 0, 0, 0));
        due.is("1000 OBJECTS", 1000, most.ran(2));
        due.is("entries of each but the first", 1 + 3 * 999, most.ran(4));
    }

    private static void locals() {
        due.of("A FRAME has LOCALS 0 to 7");
        StringBuilder words = new StringBuilder();
        for (int i = 0; i < 8; i++) {
            words.append("INT ").append(1 << i).append("; STORE ").append(i).append("; ");
        }
        words.append("LOAD 0; ");
        for (int i = 1; i < 8; i++) {
            words.append("INT 3; MUL; LOAD ").append(i).append("; ADD; ");
        }
        int want = 1;
        for (int i = 1; i < 8; i++) {
            want = want * 3 + (1 << i);
        }
        due.is("eight LOCALS", want, Words.value(0, 0, words + "RETURN"));
        FrameForge x = new FrameForge();
        due.is("LOAD 8", FrameForge.REFUSED, x.add(0, 2, 8, 0));
        due.is("STORE 8", FrameForge.REFUSED, x.add(0, 3, 8, 0));
        due.is("INC 7", 41, Words.value(0, 0, "INT 40; STORE 7; INC 7 1; LOAD 7; RETURN"));
    }

    private static void stack() {
        due.of("a STACK of at most 8 VALUES");
        String sum = "7*ADD; RETURN";
        due.is("eight", 36, Words.value(0, 0, "INT 1; INT 2; INT 3; INT 4; INT 5; INT 6; INT 7; INT 8; " + sum));
        due.is("nine", WRONG - 1000, Words.value(0, 0, "9*INT 1; ADD; " + sum));
        due.is("eight, by DUP", 8, Words.value(0, 0, "INT 1; 7*DUP; " + sum));
        due.is("nine, by DUP", WRONG - 1000, Words.value(0, 0, "INT 1; 8*DUP; ADD; " + sum));
        FrameForge full = Words.forge(0, "7*NULL; NEW 6; THROW; TYPE; RETURN");
        full.row(0, 8, 9, 9, 0);
        runs("something is THROWN with a full STACK", full, 0, 6);
        FrameForge made = Words.forge(0, "6*NULL; INT 1; INT 0; DIV; RETURN; TYPE; RETURN");
        made.row(0, 8, 9, 10, 0);
        runs("the machine throws with a full STACK", made, 0, 1);
        FrameForge call = Words.forge(0, "7*INT 1; CALL 1; " + sum);
        Words.put(call, 1, 0, "INT 30; RETURN");
        runs("a CALL gives the eighth", call, 0, 37);
        FrameForge own = Words.forge(0, "5*INT 1; 3*INT 2; CALL 1; 5*ADD; RETURN");
        Words.put(own, 1, 3, "8*LOAD 2; " + sum);
        runs("each FRAME has a STACK of its own", own, 0, 21);
    }

    private static void plainOnes() {
        due.of("0 NOP.");
        FrameForge nops = Words.forge(0, "58*NOP; INT 3; RETURN");
        runs("58 NOPS", nops, 0, 3);
        due.is("INSTRUCTIONS", 60, nops.ran(1));
        due.is("entries", 0, nops.ran(4));
        due.of("1 INT a.");
        due.is("the least", MIN, Words.value(0, 0, "INT " + MIN + "; RETURN"));
        due.is("the greatest", MAX, Words.value(0, 0, "INT " + MAX + "; RETURN"));
        due.of("4 POP.");
        due.is("POP", 7, Words.value(7, 2, "LOAD 0; LOAD 1; POP; RETURN"));
        due.of("5 DUP.");
        due.is("DUP", 49, Words.value(7, 2, "LOAD 0; DUP; MUL; RETURN"));
        due.is("DUP of an OBJECT is the same OBJECT", 9, Words.value(0, 0, "NEW 0; DUP; INT 9; PUT; GET; RETURN"));
        due.of("11 GOTO b.");
        due.is("GOTO PLACE 59", 8, Words.value(0, 0, "GOTO 58; 57*NOP; INT 8; RETURN"));
        due.is("GOTO the PLACE behind", 8, Words.value(0, 0, "GOTO 1; INT 8; RETURN"));
    }

    private static void whichIsX() {
        due.of("x is on top of it, or y, with x below");
        due.is("SUB", 5, Words.value(7, 2, "LOAD 0; LOAD 1; SUB; RETURN"));
        due.is("DIV", 3, Words.value(7, 2, "LOAD 0; LOAD 1; DIV; RETURN"));
        due.is("DIV of less", 0, Words.value(2, 7, "LOAD 0; LOAD 1; DIV; RETURN"));
        due.is("DIV below 0", -3, Words.value(-7, 2, "LOAD 0; LOAD 1; DIV; RETURN"));
        due.is("SWAP", -5, Words.value(7, 2, "LOAD 0; LOAD 1; SWAP; SUB; RETURN"));
        due.is("RETURN", 2, Words.value(7, 2, "LOAD 0; LOAD 1; RETURN"));
        due.is("PUT", 7, Words.value(7, 2, "NEW 0; DUP; LOAD 0; PUT; GET; RETURN"));
        due.is("PUT with the OBJECT on top", WRONG - 1000, Words.value(7, 2, "LOAD 0; NEW 0; PUT; LOAD 0; RETURN"));
    }

    private static void wrapping() {
        due.of("7 ADD, 8 SUB, 9 MUL x y: ints, wrapping");
        String all = "LOAD 0; LOAD 1; ";
        due.is("ADD, the greatest", MAX, Words.value(MAX - 1, 1, all + "ADD; RETURN"));
        due.is("ADD, one more", MIN, Words.value(MAX, 1, all + "ADD; RETURN"));
        due.is("ADD, the least", MIN, Words.value(MIN + 1, -1, all + "ADD; RETURN"));
        due.is("ADD, one less", MAX, Words.value(MIN, -1, all + "ADD; RETURN"));
        due.is("SUB, the least", MIN, Words.value(MIN + 1, 1, all + "SUB; RETURN"));
        due.is("SUB, one less", MAX, Words.value(MIN, 1, all + "SUB; RETURN"));
        due.is("SUB of the least", MIN, Words.value(0, MIN, all + "SUB; RETURN"));
        due.is("MUL, just not too large", 46340 * 46340, Words.value(46340, 46340, all + "MUL; RETURN"));
        due.is("MUL, too large", 46341 * 46341, Words.value(46341, 46341, all + "MUL; RETURN"));
        due.is("MUL, 2 to the 32nd", 0, Words.value(65536, 65536, all + "MUL; RETURN"));
        due.is("MUL of the least by -1", MIN, Words.value(MIN, -1, all + "MUL; RETURN"));
        due.is("DIV of the least by -1", MIN, Words.value(MIN, -1, all + "DIV; RETURN"));
        due.is("DIV of the least but one by -1", MAX, Words.value(MIN + 1, -1, all + "DIV; RETURN"));
        due.of("27 INC a b: LOCAL a, an int, becomes b more");
        due.is("INC", MAX, Words.value(MAX - 1, 0, "INC 0 1; LOAD 0; RETURN"));
        due.is("INC, one more", MIN, Words.value(MAX, 0, "INC 0 1; LOAD 0; RETURN"));
        due.is("INC by the least", MAX, Words.value(-1, 0, "INC 0 " + MIN + "; LOAD 0; RETURN"));
        due.is("INC by 0", 5, Words.value(5, 0, "INC 0 0; LOAD 0; RETURN"));
        due.is("INC of one LOCAL alone", 9, Words.value(5, 9, "INC 0 1; LOAD 1; RETURN"));
    }

    private static void divisionByZero() {
        due.of("10 DIV x y: throws 1 if y is 0");
        String words = "LOAD 0; LOAD 1; DIV; RETURN";
        due.is("by -1", -7, Words.value(7, -1, words));
        due.is("by 0", BY_ZERO, Words.value(7, 0, words));
        due.is("by 1", 7, Words.value(7, 1, words));
        due.is("0 by 0", BY_ZERO, Words.value(0, 0, words));
        due.is("0 by 1", 0, Words.value(0, 1, words));
        due.is("the least by 0", BY_ZERO, Words.value(MIN, 0, words));
    }

    private static void conditions() {
        due.of("12 IF a b: takes int x, goes on at PLACE b if x is, with a 0, 1, 2: 0, not 0, below 0");
        int[] xs = {MIN, -1, 0, 1, MAX};
        int[][] goes = {{0, 0, 1, 0, 0}, {1, 1, 0, 1, 1}, {1, 1, 0, 0, 0}};
        for (int a = 0; a < 3; a++) {
            for (int i = 0; i < xs.length; i++) {
                String words = "LOAD 0; IF " + a + " 4; INT 0; RETURN; INT 1; RETURN";
                due.is("IF " + a + " of " + xs[i], goes[a][i], Words.value(xs[i], 0, words));
            }
        }
        due.is("to the PLACE behind, if it goes", 3, Words.value(0, 0, "LOAD 0; IF 0 2; INT 3; RETURN"));
        due.is("to the PLACE behind, if not", 3, Words.value(1, 0, "LOAD 0; IF 0 2; INT 3; RETURN"));
        due.is("IF with a 3", FrameForge.REFUSED, new FrameForge().add(0, 12, 3, 0));
    }

    private static void newObjects() {
        due.of("14 NEW a: a new OBJECT of TYPE a (0 to 7), its ITEM being 0");
        for (int type = 0; type < 8; type++) {
            due.is("TYPE " + type, type, Words.value(0, 0, "NEW " + type + "; TYPE; RETURN"));
            due.is("ITEM of TYPE " + type, 0, Words.value(0, 0, "NEW " + type + "; GET; RETURN"));
        }
        due.is("TYPE 8", FrameForge.REFUSED, new FrameForge().add(0, 14, 8, 0));
        due.is("TYPE -1", FrameForge.REFUSED, new FrameForge().add(0, 14, -1, 0));
        FrameForge x = Words.forge(1, "NEW 1; STORE 1; LOAD 0; IF 0 7; LOAD 1; LOAD 0; PUT; LOAD 1; GET; RETURN");
        due.is("an ITEM is PUT", 0, x.run(0, 0, 99, 8, 0, 0));
        due.is("it is told", 8, x.ran(0));
        due.is("OBJECT 1 of another run", 0, x.run(0, 0, 99, 0, 0, 0));
        due.is("its ITEM is 0 again", 0, x.ran(0));
        FrameForge thrown = Words.forge(0, "INT 1; INT 0; DIV; RETURN; GET; RETURN");
        thrown.row(0, 0, 3, 4, 0);
        runs("ITEM of what the machine throws", thrown, 0, 0);
    }

    private static void items() {
        due.of("15 GET: takes OBJECT x, gives its ITEM");
        int[] ints = {MIN, -1, 0, 1, MAX};
        for (int y : ints) {
            due.is("ITEM " + y, y, Words.value(y, 0, "NEW 0; DUP; LOAD 0; PUT; GET; RETURN"));
        }
        due.of("16 PUT x y: the ITEM of OBJECT x becomes int y");
        String two = "NEW 0; STORE 2; NEW 0; STORE 3; LOAD 2; INT 5; PUT; LOAD 3; INT 6; PUT; ";
        due.is("of one", 5, Words.value(0, 0, two + "LOAD 2; GET; RETURN"));
        due.is("of the other", 6, Words.value(0, 0, two + "LOAD 3; GET; RETURN"));
        due.is("again", 7, Words.value(0, 0, two + "LOAD 2; INT 7; PUT; LOAD 2; GET; RETURN"));
    }

    private static void ifNull() {
        due.of("17 IF NULL b: takes OBJECT x");
        due.is("of null", 1, Words.value(0, 0, "NULL; IFNULL 4; INT 0; RETURN; INT 1; RETURN"));
        due.is("of OBJECT 1", 0, Words.value(0, 0, "NEW 0; IFNULL 4; INT 0; RETURN; INT 1; RETURN"));
        due.is("of an int", WRONG - 1000, Words.value(0, 0, "INT 0; IFNULL 4; INT 0; RETURN; INT 1; RETURN"));
        due.is("null from a LOCAL", 1, Words.value(0, 0, "NULL; STORE 7; LOAD 7; IFNULL 6; INT 0; RETURN; INT 1; RETURN"));
    }

    private static void arguments() {
        due.of("with x, y, z as ARGUMENTS (as many as it takes)");
        for (int takes = 0; takes <= 3; takes++) {
            for (int local = 0; local < 4; local++) {
                FrameForge x = Words.forge(takes, "LOAD " + local + "; RETURN");
                int ended = x.run(0, 0, 9, 21, 22, 23);
                due.is(takes + " ARGUMENTS, LOCAL " + local, local < takes ? 0 : WRONG, ended);
                due.is("its VALUE", local < takes ? 21 + local : 0, x.ran(0));
            }
        }
    }

    private static void calls() {
        due.of("21 CALL a: METHOD a (0 to 5), with its ARGUMENTS from the STACK, the last one on top; gives its VALUE");
        for (int takes = 0; takes <= 3; takes++) {
            FrameForge x = Words.forge(0, "INT 1000; INT 1; INT 2; INT 3; CALL 5; ADD; RETURN");
            x.change(0, 5, takes == 3 ? 7 : 0, 0, 0);
            StringBuilder words = new StringBuilder("INT 0; ");
            for (int i = 0; i < takes; i++) {
                words.append("INT 10; MUL; LOAD ").append(i).append("; ADD; ");
            }
            Words.put(x, 5, takes, words + "RETURN");
            int[] want = {0, 3, 23, 1123};
            runs(takes + " ARGUMENTS", x, 0, want[takes]);
        }
        FrameForge x = new FrameForge();
        due.is("CALL 6", FrameForge.REFUSED, x.add(0, 21, 6, 0));
        due.is("CALL -1", FrameForge.REFUSED, x.add(0, 21, -1, 0));
        FrameForge own = Words.forge(0, "INT 4; STORE 0; INT 9; CALL 1; POP; LOAD 0; RETURN");
        Words.put(own, 1, 1, "INC 0 5; LOAD 0; RETURN");
        runs("each FRAME has LOCALS of its own", own, 0, 4);
        FrameForge same = Words.forge(0, "NEW 0; STORE 0; INT 2; CALL 1; SAY; NEW 0; DUP; ENTER; LEAVE; INT 0; RETURN");
        Words.put(same, 1, 1, "NEW 7; TYPE; RETURN");
        runs("OBJECTS are numbered through all FRAMES", same, 0, 0);
        due.trace("the third one is 3", same, 1, 113, 7 * 16, 1, 50, 51);
    }

    private static void returns() {
        due.of("22 RETURN: takes int x");
        int[] ints = {MIN, -1, 0, 1, MAX};
        for (int x : ints) {
            due.is("RETURN of " + x, x, Words.value(x, 0, "LOAD 0; RETURN"));
        }
        due.is("RETURN of null", WRONG - 1000, Words.value(0, 0, "NULL; RETURN"));
        due.is("RETURN of nothing", WRONG - 1000, Words.value(0, 0, "RETURN"));
        due.is("what lies below is dropped", 8, Words.value(0, 0, "7*NULL; INT 8; RETURN"));
        FrameForge x = Words.forge(0, "INT 5; CALL 1; SUB; RETURN");
        Words.put(x, 1, 0, "INT 40; NULL; INT 3; RETURN");
        runs("and does not come to the FRAME below", x, 0, 2);
    }

    private static void subroutines() {
        due.of("a RETURN of the subroutine at PLACE b, to the PLACE behind, comes onto the STACK, and it goes on at PLACE b");
        FrameForge x = Words.forge(0, "GOSUB 5; GOSUB 5; GOSUB 5; INT 0; RETURN; STORE 7; INT 1; SAY; BACK 7");
        runs("three GOSUBS", x, 0, 0);
        due.trace("three times", x, 16, 16, 16);
        due.is("INSTRUCTIONS", 3 * 5 + 2, x.ran(1));
        FrameForge last = Words.forge(0, "GOTO 2; BACK 0; INT 2; RETURN");
        runs("a BACK that is not come to", last, 0, 2);
        due.of("24 BACK a: goes on where the RETURN in LOCAL a leads");
        FrameForge twice = Words.forge(0, "GOSUB 3; INT 1; RETURN; STORE 0; GOSUB 6; BACK 0; STORE 7; INT 9; SAY; BACK 7");
        runs("of LOCAL 0 and of LOCAL 7", twice, 0, 1);
        due.is("INSTRUCTIONS of it", 10, twice.ran(1));
        FrameForge kept = Words.forge(1, "GOSUB 3; LOAD 0; RETURN; STORE 1; INC 0 -1; LOAD 0; IF 0 8; BACK 1; INT 77; RETURN");
        due.is("BACK to the first GOSUB", 0, kept.run(0, 0, 99, 5, 0, 0));
        due.is("its VALUE", 4, kept.ran(0));
        due.is("RETURN out of a subroutine", 0, kept.run(0, 0, 99, 1, 0, 0));
        due.is("its VALUE", 77, kept.ran(0));
    }

    private static void types() {
        due.of("0 is above all; 1 BY ZERO, 2 NULL, 3 LOCK, 4 DEEP are under 0, 5 under 1, 6 under 2, 7 under 5 (and so under 1)");
        String[] has = {"0", "01", "02", "03", "04", "015", "026", "0157"};
        for (int thrown = 0; thrown < 8; thrown++) {
            for (int type = 0; type < 8; type++) {
                FrameForge x = Words.forge(0, "NEW " + thrown + "; THROW; TYPE; RETURN");
                x.row(0, 1, 2, 2, type);
                boolean it = has[thrown].indexOf('0' + type) >= 0;
                due.is(thrown + " by a ROW of " + type, it ? 0 : 16 + thrown, x.run(0, 0, 9, 0, 0, 0));
                due.is("how many times a ROW HAD it", it ? 1 : 0, x.ran(5));
            }
        }
    }

    private static void thrownByNull() {
        due.of("of TYPE 2 by GET, PUT, ENTER, LEAVE, THROW, TYPE of null");
        String[] ops = {"GET; RETURN", "INT 1; PUT; INT 0; RETURN", "ENTER; INT 0; RETURN", "LEAVE; INT 0; RETURN", "THROW", "TYPE; RETURN"};
        int[] endings = {0, 0, 19, 19, 23, 0};
        for (int i = 0; i < ops.length; i++) {
            String op = ops[i];
            FrameForge x = Words.forge(0, "NULL; " + op);
            due.is(op + " of null", 18, x.run(0, 0, 99, 0, 0, 0));
            due.trace(op + " of null", x, 2 * 16 + 1, 2 * 16 + 4);
            due.is(op + " OBJECTS", 1, x.ran(2));
            FrameForge y = Words.forge(0, "NEW 7; " + op);
            due.is(op + " of an OBJECT", endings[i], y.run(0, 0, 99, 0, 0, 0));
        }
        due.is("neither POP, DUP, SWAP, STORE, LOAD nor IF NULL of null", 4,
            Words.value(0, 0, "NULL; DUP; SWAP; POP; STORE 7; LOAD 7; IFNULL 7; INT 4; RETURN"));
        due.is("null above an OBJECT", BY_NULL, Words.value(0, 0, "NEW 5; NULL; TYPE; RETURN"));
    }

    private static void thrownByLeave() {
        due.of("3 by LEAVE of an OBJECT that this FRAME has not ENTERED, or has LEFT as often");
        for (int enters = 0; enters <= 4; enters++) {
            for (int leaves = 0; leaves <= 5; leaves++) {
                StringBuilder words = new StringBuilder("NEW 0; STORE 0; ");
                words.append(("LOAD 0; ENTER; ").repeat(enters)).append("LOAD 0; LEAVE; ".repeat(leaves)).append("INT 5; RETURN");
                FrameForge x = Words.forge(0, words.toString());
                due.is(enters + " ENTERS, " + leaves + " LEAVES", enters == leaves ? 0 : 19, x.run(0, 0, 99, 0, 0, 0));
                boolean thrownByLeave = leaves > enters;
                int done = thrownByLeave ? 2 + 4 * enters + 2 : 4 + 2 * enters + 2 * leaves;
                due.is("INSTRUCTIONS done", done, x.ran(1));
            }
        }
        FrameForge two = Words.forge(0, "NEW 0; ENTER; NEW 0; LEAVE; INT 5; RETURN");
        due.is("of another OBJECT", 19, two.run(0, 0, 99, 0, 0, 0));
        due.trace("of another OBJECT", two, 1, 18, 1, 49, 52, 19, 49, 52);
        FrameForge again = Words.forge(0, "NEW 0; STORE 0; LOAD 0; ENTER; LOAD 0; LEAVE; LOAD 0; ENTER; LOAD 0; LEAVE; INT 5; RETURN");
        runs("ENTERED anew", again, 0, 5);
        FrameForge below = Words.forge(0, "NEW 0; DUP; ENTER; THROW; LEAVE; INT 5; RETURN");
        below.row(0, 3, 4, 4, 0);
        runs("ENTERED before something was THROWN", below, 0, 5);
        due.trace("ENTERED before something was THROWN", below, 1, 18, 4, 5, 19);
        thrownByLeaveInAnotherFrame();
    }

    /** An OBJECT of the FRAME below comes to the one above only by being THROWN, so the other way round. */
    private static void thrownByLeaveInAnotherFrame() {
        FrameForge x = Words.forge(0, "CALL 1; RETURN; LEAVE; INT 5; RETURN");
        Words.put(x, 1, 0, "NEW 6; DUP; DUP; ENTER; LEAVE; NEW 6; THROW");
        x.row(0, 0, 1, 2, 6);
        due.is("ENTERED by another FRAME", 19, x.run(0, 0, 99, 0, 0, 0));
        due.trace("ENTERED by another FRAME", x, 97, 18, 19, 97, 100, 101, 49, 52);
        FrameForge below = Words.forge(0, "NEW 0; DUP; ENTER; CALL 1; POP; LEAVE; INT 5; RETURN");
        Words.put(below, 1, 0, "NEW 0; LEAVE; INT 1; RETURN; POP; INT 1; RETURN");
        below.row(1, 1, 2, 4, 3);
        runs("the FRAME below has ENTERED another one", below, 0, 5);
        due.trace("the FRAME below has ENTERED another one", below, 1, 18, 1, 49, 52, 53, 19);
    }

    private static void thrownByDepth() {
        due.of("4 by CALL, if there are 12 FRAMES");
        FrameForge x = Words.forge(1, "LOAD 0; IF 0 6; INC 0 -1; LOAD 0; CALL 0; RETURN; INT 7; RETURN");
        for (int frames = 10; frames <= 14; frames++) {
            boolean deep = frames > 12;
            due.is(frames + " FRAMES", deep ? 20 : 0, x.run(0, 0, 1000, frames - 1, 0, 0));
            due.is(frames + " FRAMES, VALUE", deep ? 0 : 7, x.ran(0));
            due.is(frames + " FRAMES, the most at one time", Math.min(frames, 12), x.ran(3));
            due.is(frames + " FRAMES, OBJECTS", deep ? 1 : 0, x.ran(2));
            due.is(frames + " FRAMES, entries", deep ? 2 : 0, x.ran(4));
            due.is(frames + " FRAMES, INSTRUCTIONS", deep ? 12 * 5 : 5 * (frames - 1) + 4 + frames - 1, x.ran(1));
        }
        due.trace("DEEP", x, 65, 68);
        x.add(0, 26, 0, 0);
        x.add(0, 22, 0, 0);
        x.row(0, 4, 5, 8, 4);
        due.is("it is THROWN at the CALL in the twelfth FRAME", 0, x.run(0, 0, 1000, 12, 0, 0));
        due.trace("it is HAD there", x, 65, 68, 69);
        due.is("TYPE as VALUE", 4, x.ran(0));
        FrameForge locked = new FrameForge();
        Words.putLocked(locked, 3, 0, "CALL 3; RETURN");
        due.is("a LOCKED METHOD", 20, locked.run(0, 3, 1000, 0, 0, 0));
        due.is("the thirteenth FRAME does not begin", 12 + 2 + 12, locked.ran(4));
        due.is("the last lock is ENTERED", 4003 * 16 + 2, locked.trace(11));
        due.is("then DEEP is made", 65, locked.trace(12));
        FrameForge often = Words.forge(0, "CALL 1; POP; CALL 1; POP; INT 3; RETURN");
        Words.put(often, 1, 0, "INT 1; RETURN");
        runs("FRAMES that have ended do not count", often, 0, 3);
        due.is("the most at one time", 2, often.ran(3));
    }

    private static void whichRow() {
        due.of("the first ROW with from not above, to above this PLACE");
        // The THROW is at PLACE 4.
        int[][] spans = {{3, 4, 0}, {4, 5, 1}, {5, 6, 0}, {3, 5, 1}, {4, 6, 1}, {0, 4, 0}, {0, 5, 1}, {0, 60, 1}, {4, 60, 1}, {5, 60, 0}};
        for (int[] span : spans) {
            FrameForge x = Words.forge(0, "3*NOP; NEW 5; THROW; TYPE; RETURN");
            x.row(0, span[0], span[1], 5, 5);
            due.is("from " + span[0] + " to " + span[1], span[2] == 1 ? 0 : 21, x.run(0, 0, 99, 0, 0, 0));
        }
        FrameForge ends = Words.forge(0, "58*NOP; NULL; THROW");
        ends.row(0, 59, 60, 59, 2);
        due.is("PLACE 59 and to 60", FrameForge.STOPPED, ends.run(0, 0, 70, 0, 0, 0));
        due.is("how many times", 11, ends.ran(5));
        due.of("and whose type is the TYPE of it, or above that, HAS it");
        for (int first = 0; first < 2; first++) {
            FrameForge x = Words.forge(0, "NEW 5; THROW; POP; INT 2; RETURN; POP; INT 5; RETURN");
            x.row(0, 1, 2, 2, first == 0 ? 1 : 5);
            x.row(0, 1, 2, 5, first == 0 ? 5 : 1);
            runs("the first of two that could", x, 0, 2);
        }
        FrameForge third = Words.forge(0, "NEW 5; THROW; POP; INT 2; RETURN; POP; INT 5; RETURN");
        third.row(0, 1, 2, 2, 7);
        third.row(0, 0, 1, 2, 0);
        third.row(0, 1, 2, 5, 0);
        third.row(0, 1, 2, 2, 5);
        runs("the first one that HAS it is the third", third, 0, 5);
        due.is("one ROW HAD it", 1, third.ran(5));
        FrameForge eighth = Words.forge(0, "NEW 7; THROW; TYPE; RETURN");
        for (int r = 0; r < 7; r++) {
            eighth.row(0, 1, 2, 2, 6);
        }
        due.is("none of seven", 23, eighth.run(0, 0, 9, 0, 0, 0));
        eighth.row(0, 1, 2, 2, 7);
        runs("the eighth one", eighth, 0, 7);
        FrameForge noneOfEight = Words.forge(0, "NEW 7; THROW; TYPE; RETURN");
        for (int r = 0; r < 8; r++) {
            noneOfEight.row(0, 1, 2, 2, 6);
        }
        due.is("none of eight", 23, noneOfEight.run(0, 0, 9, 0, 0, 0));
    }

    private static void whatARowDoes() {
        due.of("the STACK is that OBJECT alone, and it goes on at PLACE at");
        FrameForge x = Words.forge(0, "8*NOP; 7*INT 0; NEW 3; THROW; DUP; GET; SAY; TYPE; RETURN");
        x.row(0, 16, 17, 17, 3);
        due.is("how many VALUES", 1, x.kindAt(0, 17, -1));
        runs("a full STACK", x, 0, 3);
        FrameForge room = Words.forge(0, "8*NULL; THROW; 7*INT 2; 6*ADD; RETURN");
        room.row(0, 8, 9, 9, 2);
        runs("there is room for seven more then", room, 0, 14);
        FrameForge same = Words.forge(0, "NEW 3; STORE 0; LOAD 0; INT 44; PUT; LOAD 0; THROW; GET; RETURN");
        same.row(0, 6, 7, 7, 0);
        runs("it is that very OBJECT", same, 0, 44);
        FrameForge locals = Words.forge(0, "INT 3; STORE 0; NULL; THROW; POP; LOAD 0; RETURN");
        locals.row(0, 3, 4, 4, 0);
        runs("LOCALS stay", locals, 0, 3);
        FrameForge first = Words.forge(0, "GOTO 3; POP; THROW; NULL; THROW");
        first.row(0, 4, 5, 2, 0);
        due.is("at below", 18, first.run(0, 0, 9, 0, 0, 0));
        due.trace("the ROW does not have PLACE 2", first, 33, 36, 37, 36);
    }

    private static void framesThatEnd() {
        due.of("If none HAS it the FRAME ends, and it is THROWN at the CALL of the FRAME below");
        for (int at = 0; at < 4; at++) {
            FrameForge x = Words.forge(0, "NOP; CALL 1; NOP; RETURN; TYPE; RETURN");
            Words.put(x, 1, 0, "4*NOP; NEW 6; THROW");
            x.row(0, at, at + 1, 4, 2);
            due.is("a ROW of PLACE " + at, at == 1 ? 0 : 22, x.run(0, 0, 99, 0, 0, 0));
        }
        FrameForge x = Words.forge(0, "CALL 1; RETURN; TYPE; RETURN");
        Words.put(x, 1, 0, "CALL 2; RETURN; TYPE; RETURN");
        Words.put(x, 2, 0, "NEW 6; THROW; TYPE; RETURN");
        due.is("no ROW", 22, x.run(0, 0, 99, 0, 0, 0));
        due.trace("THROWN once", x, 97, 100);
        due.is("VALUE", 0, x.ran(0));
        due.is("INSTRUCTIONS", 4, x.ran(1));
        x.row(0, 0, 1, 2, 2);
        runs("the lowest FRAME", x, 0, 6);
        due.is("INSTRUCTIONS with the lowest FRAME", 6, x.ran(1));
        x.row(1, 0, 1, 2, 7);
        runs("not a ROW of another TYPE", x, 0, 6);
        x.row(1, 0, 1, 2, 6);
        runs("the FRAME in the middle first", x, 0, 6);
        due.is("INSTRUCTIONS with the FRAME in the middle", 7, x.ran(1));
        due.is("once", 1, x.ran(5));
    }

    private static void locksThatAreLeft() {
        due.of("it LEAVES them, the latest ENTERED first, and ends by a new OBJECT of TYPE 3");
        String two = "NEW 1; STORE 0; NEW 2; STORE 1; LOAD 0; ENTER; LOAD 1; ENTER; ";
        FrameForge x = Words.forge(0, two + "INT 5; RETURN");
        runs("in place of the VALUE", x, 19, 0);
        due.trace("in place of the VALUE", x, 17, 33, 18, 34, 35, 19, 49, 52);
        FrameForge y = Words.forge(0, two + "NEW 7; THROW");
        runs("in place of what was THROWN", y, 19, 0);
        due.trace("in place of what was THROWN", y, 17, 33, 18, 34, 113, 116, 35, 19, 49, 52);
        FrameForge one = Words.forge(0, two + "LOAD 1; LEAVE; INT 5; RETURN");
        runs("one of them is LEFT", one, 19, 0);
        due.trace("one of them is LEFT", one, 17, 33, 18, 34, 35, 19, 49, 52);
        FrameForge none = Words.forge(0, two + "LOAD 0; LEAVE; LOAD 1; LEAVE; INT 5; RETURN");
        runs("both are LEFT, in either order", none, 0, 5);
        due.trace("both are LEFT, in either order", none, 17, 33, 18, 34, 19, 35);
        FrameForge had = Words.forge(0, "NEW 0; ENTER; NEW 5; THROW; POP; INT 5; RETURN");
        had.row(0, 3, 4, 4, 5);
        runs("something is HAD in between", had, 19, 0);
        due.trace("something is HAD in between", had, 1, 18, 81, 84, 85, 19, 49, 52);
        FrameForge stopped = Words.forge(0, "NEW 0; ENTER; GOTO 2");
        due.is("a run that is STOPPED", FrameForge.STOPPED, stopped.run(0, 0, 9, 0, 0, 0));
        due.trace("LEAVES nothing", stopped, 1, 18);
        due.is("nor does the next run", FrameForge.STOPPED, stopped.run(0, 0, 1, 0, 0, 0));
        due.trace("nor does the next run", stopped, 1);
        locksOfEachFrame();
        manyLocks();
    }

    private static void manyLocks() {
        FrameForge x = Words.forge(1, "NEW 0; STORE 1; " + "LOAD 1; ENTER; ".repeat(20) + "INC 0 -1; LOAD 0; IF 1 2; LOAD 1; LEAVE; INT 5; RETURN");
        due.is("400 ENTERS, one LEAVE", 19, x.run(0, 0, 1000, 20, 0, 0));
        due.is("INSTRUCTIONS", 2 + 20 * 43 + 4, x.ran(1));
        due.is("each one is LEFT", 1 + 400 + 1 + 399 + 2, x.ran(4));
        due.is("OBJECTS", 2, x.ran(2));
        for (int i = 0; i < 4; i++) {
            due.is("STOPPED with locks", FrameForge.STOPPED, x.run(0, 0, 1000, 0, 0, 0));
        }
        due.is("20 ENTERS, one LEAVE, after that", 19, x.run(0, 0, 1000, 1, 0, 0));
        due.is("each one is LEFT, after that", 1 + 20 + 1 + 19 + 2, x.ran(4));
    }

    private static void locksOfEachFrame() {
        FrameForge x = Words.forge(0, "CALL 1; RETURN; TYPE; RETURN");
        Words.put(x, 1, 0, "NEW 0; ENTER; CALL 2; RETURN");
        Words.put(x, 2, 0, "NEW 0; ENTER; INT 9; RETURN; TYPE; RETURN");
        x.row(2, 0, 4, 4, 0);
        x.row(0, 0, 1, 2, 3);
        runs("each FRAME ends by a new one", x, 0, 3);
        due.trace("each FRAME ends by a new one", x, 1, 18, 1, 34, 35, 49, 52, 19, 49, 52, 53);
        due.is("OBJECTS", 4, x.ran(2));
        FrameForge call = Words.forge(0, "NEW 0; ENTER; CALL 1; RETURN; POP; INT 1; RETURN");
        Words.put(call, 1, 0, "NEW 0; ENTER; INT 9; RETURN");
        call.row(0, 2, 3, 4, 3);
        runs("the FRAME below HAS the first, and ends by a second", call, 19, 0);
        due.trace("both", call, 1, 18, 1, 34, 35, 49, 52, 53, 19, 49, 52);
    }

    private static void lockedMethods() {
        due.of("A FRAME of a LOCKED METHOD m ENTERS the lock of the METHOD as it begins, and LEAVES it as the last thing");
        int[] methods = {0, 5};
        for (int m : methods) {
            int entered = (4000 + m) * 16 + 2;
            int left = (4000 + m) * 16 + 3;
            FrameForge x = new FrameForge();
            Words.putLocked(x, m, 0, "NEW 1; DUP; ENTER; LEAVE; INT 5; RETURN");
            due.is("METHOD " + m + " RETURNS", 0, x.run(0, m, 99, 0, 0, 0));
            due.is("its VALUE", 5, x.ran(0));
            due.trace("METHOD " + m + " RETURNS", x, entered, 17, 18, 19, left);
            x.change(m, 3, 4, 0, 0);
            due.is("METHOD " + m + " ends by LOCK", 19, x.run(0, m, 99, 0, 0, 0));
            due.trace("METHOD " + m + " ends by LOCK", x, entered, 17, 18, 19, 49, 52, left);
            Words.putLocked(x, m, 0, "NEW 6; THROW");
            due.is("METHOD " + m + " ends by what is THROWN", 22, x.run(0, m, 99, 0, 0, 0));
            due.trace("METHOD " + m + " ends by what is THROWN", x, entered, 97, 100, left);
        }
        due.of("(that is none of its OBJECTS)");
        FrameForge x = new FrameForge();
        Words.putLocked(x, 1, 0, "NEW 0; LEAVE; INT 5; RETURN");
        due.is("LEAVE does not leave it", 19, x.run(0, 1, 99, 0, 0, 0));
        due.trace("LEAVE does not leave it", x, 4001 * 16 + 2, 1, 49, 52, 4001 * 16 + 3);
        due.is("OBJECTS", 2, x.ran(2));
        FrameForge down = new FrameForge();
        Words.putLocked(down, 2, 1, "LOAD 0; IF 0 6; INC 0 -1; LOAD 0; CALL 2; RETURN; INT 7; RETURN");
        due.is("ENTERED by several FRAMES", 0, down.run(0, 2, 99, 1, 0, 0));
        due.trace("ENTERED by several FRAMES", down, 4002 * 16 + 2, 4002 * 16 + 2, 4002 * 16 + 3, 4002 * 16 + 3);
    }

    private static void said() {
        due.of("0 SAY (the lowest 16 bits of the int)");
        int[] ints = {0, 1, 65535, 65536, 65537, -1, -65535, -65536, -65537, MIN, MAX};
        int[] bits = {0, 1, 65535, 0, 1, 65535, 1, 0, 65535, 0, 65535};
        for (int i = 0; i < ints.length; i++) {
            FrameForge x = Words.forge(1, "LOAD 0; SAY; INT 0; RETURN");
            x.run(0, 0, 9, ints[i], 0, 0);
            due.trace("SAY " + ints[i], x, 16 * bits[i]);
        }
    }

    private static void sorts() {
        due.of("1 an OBJECT is made (its TYPE)");
        for (int type = 0; type < 8; type++) {
            FrameForge x = Words.forge(0, "NEW " + type + "; DUP; DUP; ENTER; LEAVE; NEW " + type + "; THROW; POP; INT 0; RETURN");
            x.row(0, 6, 7, 7, 0);
            x.run(0, 0, 99, 0, 0, 0);
            due.trace("TYPE " + type, x, 16 * type + 1, 18, 19, 16 * type + 1, 16 * type + 4, 16 * type + 5);
        }
        due.of("2 a lock is ENTERED, 3 LEFT (the number of the OBJECT, or 4000 and that of the METHOD)");
        FrameForge many = Words.forge(1, "NEW 0; STORE 1; INC 0 -1; LOAD 0; IF 1 0; LOAD 1; DUP; ENTER; LEAVE; INT 0; RETURN");
        many.run(0, 0, 1000, 110, 0, 0);
        due.is("ENTERED", 110 * 16 + 2, many.trace(110));
        due.is("LEFT", 110 * 16 + 3, many.trace(111));
        due.is("none behind", NONE, many.trace(112));
        for (int m = 0; m < 6; m++) {
            FrameForge lock = new FrameForge();
            Words.putLocked(lock, m, 0, "INT 0; RETURN");
            lock.run(0, m, 9, 0, 0, 0);
            due.trace("METHOD " + m, lock, (4000 + m) * 16 + 2, (4000 + m) * 16 + 3);
        }
        due.of("4 something is THROWN by an INSTRUCTION, or as a FRAME ends by LOCK (its TYPE");
        FrameForge both = Words.forge(0, "NEW 4; DUP; ENTER; THROW");
        both.run(0, 0, 9, 0, 0, 0);
        due.trace("both", both, 65, 18, 68, 19, 49, 52);
        due.of("not again at the CALL below), behind the entry that it is made, if it is");
        FrameForge x = Words.forge(0, "CALL 1; RETURN; THROW");
        Words.put(x, 1, 0, "INT 1; INT 0; DIV; RETURN");
        x.row(0, 0, 1, 2, 1);
        due.is("THROWN, HAD, THROWN", 17, x.run(0, 0, 99, 0, 0, 0));
        due.trace("made once", x, 17, 20, 21, 20);
        due.is("entries", 4, x.ran(4));
    }
}
