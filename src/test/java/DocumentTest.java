/** The document from its first line to its last: the sentences that no other test quotes. */
final class DocumentTest {
    private static final int REFUSED = FrameForge.REFUSED;
    private static final int NONE = FrameForge.NONE;
    private static final int FULL = FrameForge.FULL;
    private static final int WRONG = FrameForge.WRONG;
    private static final int STOPPED = FrameForge.STOPPED;
    private static final Due due = new Due();

    public static void main(String[] args) {
        codeOfMethods();
        tablesOfMethods();
        argumentsAndLocks();
        kindsOfValues();
        returnsOfSubroutines();
        localsAndStack();
        instructionsOfObjects();
        sayAndType();
        whatTheMachineThrows();
        thrownAtAPlace();
        framesThatHaveNotLeft();
        theTrace();
        theChecker();
        toReplace();
        constants();
        kindsByNumber();
        latestRun();
        compareZeroFirst();
        unfold();
        unfoldRowsBelow();
        inline();
        due.end();
    }

    private static void codeOfMethods() {
        due.of("A PROGRAM has METHODS 0 to 5, each with CODE, a row of at most 60 INSTRUCTIONS (op, a, b) with numbers from 0 on, its PLACES");
        FrameForge x = new FrameForge();
        for (int p = 0; p < 2; p++) {
            x.write(p);
            for (int m = 0; m < 6; m++) {
                for (int i = 0; i < 60; i++) {
                    due.is("INSTRUCTION " + i, i + 1, x.add(m, 27, (i + m) % 8, 100 * p + i));
                }
                due.is("a 61st", FULL, x.add(m, 27, 0, 0));
            }
        }
        for (int p = 0; p < 2; p++) {
            x.write(p);
            for (int m = 0; m < 6; m++) {
                for (int i = 0; i < 60; i++) {
                    due.is("op", 27, x.code(m, i, 0));
                    due.is("a", (i + m) % 8, x.code(m, i, 1));
                    due.is("b", 100 * p + i, x.code(m, i, 2));
                }
            }
        }
    }

    private static void tablesOfMethods() {
        due.of("a TABLE of at most 8 ROWS (from, to, at, type)");
        FrameForge x = new FrameForge();
        for (int p = 0; p < 2; p++) {
            x.write(p);
            for (int m = 0; m < 6; m++) {
                for (int r = 0; r < 8; r++) {
                    due.is("ROW " + r, r + 1, x.row(m, r + p, r + m + 10, r + 20, 7 - r));
                }
                due.is("a ninth", FULL, x.row(m, 0, 1, 0, 0));
            }
        }
        for (int p = 0; p < 2; p++) {
            x.write(p);
            for (int m = 0; m < 6; m++) {
                int[][] want = new int[8][];
                for (int r = 0; r < 8; r++) {
                    want[r] = new int[] {r + p, r + m + 10, r + 20, 7 - r};
                }
                due.rows("TABLE of METHOD " + m, x, m, want);
            }
        }
    }

    private static void argumentsAndLocks() {
        due.of("how many ARGUMENTS it takes (0 to 3); and it may be LOCKED");
        FrameForge x = new FrameForge();
        for (int m = 0; m < 6; m++) {
            due.yes("METHOD " + m, x.method(m, m % 4, m > 3));
        }
        for (int m = 0; m < 6; m++) {
            due.is("ARGUMENTS of METHOD " + m, m % 4, x.table(m, -1, 2));
            due.is("METHOD " + m + " is LOCKED", m > 3 ? 1 : 0, x.table(m, -1, 3));
        }
    }

    private static void kindsOfValues() {
        due.of("VALUES are ints");
        due.is("an int", -5, Words.value(-5, 0, "LOAD 0; RETURN"));
        due.of("or null, and RETURNS (each of the subroutine that begins at some PLACE, to a PLACE)");
        FrameForge x = Words.forge(0, "INT 1; NEW 2; NULL; GOSUB 4; STORE 7; POP; POP; RETURN");
        due.is("all of them on one STACK", 8, x.check(0));
        int[] kinds = {0, 1, 1, 14};
        for (int i = 0; i < 4; i++) {
            due.is("VALUE " + i, kinds[i], x.kindAt(0, 4, i));
        }
        due.is("null is none of the OBJECTS made", 0, x.run(0, 0, 99, 0, 0, 0));
        due.is("OBJECTS made", 1, x.ran(2));
    }

    private static void returnsOfSubroutines() {
        // Each RETURN leads behind its own GOSUB, also while that of another subroutine is kept.
        FrameForge x = Words.forge(0, "GOSUB 7; INT 1; SAY; GOSUB 7; INT 2; RETURN; NOP; "
            + "STORE 0; GOSUB 13; INT 3; SAY; BACK 0; NOP; STORE 1; INT 4; SAY; BACK 1");
        due.of("23 GOSUB b:");
        due.is("a subroutine in a subroutine", 0, x.run(0, 0, 99, 0, 0, 0));
        due.trace("a subroutine in a subroutine", x, 64, 48, 16, 64, 48);
        due.is("its VALUE", 2, x.ran(0));
        due.is("INSTRUCTIONS", 4 + 2 + 2 * (5 + 4), x.ran(1));
    }

    private static void localsAndStack() {
        due.of("2 LOAD a: LOCAL a (0 to 7). 3 STORE a.");
        for (int i = 0; i < 8; i++) {
            due.is("LOCAL " + i, 40 + i, Words.value(0, 0, "INT " + (40 + i) + "; STORE " + i + "; INT 1; POP; LOAD " + i + "; RETURN"));
            due.is("LOAD leaves LOCAL " + i + " as it is", 2 * i, Words.value(0, 0, "INT " + i + "; STORE " + i + "; LOAD " + i + "; LOAD " + i + "; ADD; RETURN"));
            due.is("STORE takes what it stores", WRONG - 1000, Words.value(0, 0, "INT 5; STORE " + i + "; RETURN"));
        }
        due.of("6 SWAP x y.");
        due.is("two ints", 3 - 10, Words.value(10, 3, "LOAD 0; LOAD 1; SWAP; SUB; RETURN"));
        due.is("an int and an OBJECT", 6, Words.value(0, 0, "INT 6; NEW 1; SWAP; RETURN"));
        due.is("what lies below stays", 100 + 4 - 5, Words.value(0, 0, "INT 100; INT 5; INT 4; SWAP; SUB; ADD; RETURN"));
        due.of("13 NULL.");
        due.is("null", 1, Words.value(0, 0, "NULL; IFNULL 4; INT 0; RETURN; INT 1; RETURN"));
        due.is("the same KIND as an OBJECT", 9, Words.check(1, "LOAD 0; IF 0 4; NULL; GOTO 5; NEW 0; IFNULL 6; GOTO 7; INT 0; RETURN"));
    }

    private static void instructionsOfObjects() {
        due.of("18 ENTER, 19 LEAVE: takes OBJECT x, whose lock it is.");
        FrameForge locks = Words.forge(0, "NEW 0; NEW 1; DUP; ENTER; LEAVE; DUP; ENTER; LEAVE; INT 4; RETURN");
        due.is("locks", 0, locks.run(0, 0, 99, 0, 0, 0));
        due.trace("the number of the OBJECT on top", locks, 1, 17, 34, 35, 18, 19);
        due.is("ENTER takes it", WRONG, Words.check(0, "NEW 0; ENTER; LEAVE; INT 0; RETURN"));
        due.is("LEAVE takes it", WRONG, Words.check(0, "NEW 0; DUP; ENTER; LEAVE; POP; INT 0; RETURN"));
        due.is("ENTER of an int", WRONG, Words.check(0, "INT 0; ENTER; INT 0; RETURN"));
        due.is("LEAVE of an int", WRONG, Words.check(0, "INT 0; LEAVE; INT 0; RETURN"));
        due.of("20 THROW: takes OBJECT x.");
        for (int type = 0; type < 8; type++) {
            FrameForge x = Words.forge(0, "NEW " + (7 - type) + "; NEW " + type + "; THROW");
            due.is("the one on top, of TYPE " + type, 16 + type, x.run(0, 0, 99, 0, 0, 0));
        }
        due.is("THROW of an int", WRONG, Words.check(0, "INT 0; THROW"));
    }

    private static void sayAndType() {
        due.of("25 SAY: takes int x.");
        FrameForge says = Words.forge(0, "INT 3; INT 4; SAY; SAY; INT 5; RETURN");
        due.is("SAY", 0, says.run(0, 0, 99, 0, 0, 0));
        due.trace("the one on top first", says, 64, 48);
        due.is("SAY of an OBJECT", WRONG, Words.check(0, "NEW 0; SAY; INT 0; RETURN"));
        due.of("26 TYPE: takes OBJECT x, gives its TYPE.");
        for (int type = 0; type < 8; type++) {
            due.is("TYPE " + type, type, Words.value(0, 0, "NEW " + (7 - type) + "; NEW " + type + "; TYPE; RETURN"));
        }
        due.is("TYPE of an int", WRONG, Words.check(0, "INT 0; TYPE; RETURN"));
        due.is("it takes it", WRONG, Words.check(0, "NEW 0; TYPE; POP; TYPE; RETURN"));
    }

    private static void whatTheMachineThrows() {
        due.of("What the machine throws is a new OBJECT");
        String[] thrown = {"NULL; GET; POP", "NULL; INT 1; PUT", "NULL; ENTER", "NULL; LEAVE", "NULL; THROW", "NULL; TYPE; POP", "NEW 6; LEAVE", "INT 1; INT 0; DIV; POP"};
        int[] types = {2, 2, 2, 2, 2, 2, 3, 1};
        for (int i = 0; i < thrown.length; i++) {
            FrameForge x = Words.forge(0, thrown[i] + "; INT 0; RETURN; DUP; TYPE; SWAP; GET; ADD; RETURN");
            int handler = x.table(0, -1, 0) - 6;
            x.row(0, 0, handler, handler, 0);
            for (int k = 0; k < 2; k++) {
                due.is(thrown[i], 0, x.run(0, 0, 99, 0, 0, 0));
                due.is("its TYPE, its ITEM being 0", types[i], x.ran(0));
                due.is("OBJECTS made", thrown[i].startsWith("NEW") ? 2 : 1, x.ran(2));
            }
        }
        due.of("1 as said");
        due.is("DIV by 0", 16 + 1 - 1000, Words.value(1, 0, "LOAD 0; LOAD 1; DIV; RETURN"));
        due.is("THROW of an OBJECT makes none", 16 + 7 - 1000, Words.value(0, 0, "NEW 7; THROW"));
    }

    private static void thrownAtAPlace() {
        due.of("When something is THROWN at a PLACE");
        for (int p = 0; p < 6; p++) {
            FrameForge x = Words.forge(0, "NOP; NOP; INT 1; INT 0; DIV; RETURN; TYPE; RETURN");
            x.row(0, p, p + 1, 6, 0);
            due.is("a ROW of PLACE " + p + " alone", p == 4 ? 0 : 17, x.run(0, 0, 99, 0, 0, 0));
        }
    }

    private static void framesThatHaveNotLeft() {
        due.of("If a FRAME is to end by RETURN or so, and has ENTERED OBJECTS that it has not LEFT");
        FrameForge returns = Words.forge(0, "NEW 5; ENTER; INT 8; RETURN");
        due.is("by RETURN", 19, returns.run(0, 0, 99, 0, 0, 0));
        due.trace("by RETURN", returns, 81, 18, 19, 49, 52);
        due.is("none that it has LEFT", 8, Words.value(0, 0, "NEW 5; DUP; ENTER; LEAVE; INT 8; RETURN"));
        due.of("in place of the VALUE or of what was THROWN");
        due.is("no VALUE", 0, returns.ran(0));
        FrameForge ends = Words.forge(0, "NEW 5; DUP; ENTER; THROW");
        due.is("by what was THROWN", 19, ends.run(0, 0, 99, 0, 0, 0));
        due.trace("by what was THROWN", ends, 81, 18, 84, 19, 49, 52);
        FrameForge below = Words.forge(0, "CALL 1; RETURN; TYPE; RETURN");
        below.row(0, 0, 1, 2, 5);
        below.row(0, 0, 1, 2, 3);
        Words.put(below, 1, 0, "NEW 5; DUP; ENTER; THROW");
        due.is("the FRAME below is given LOCK", 0, below.run(0, 0, 99, 0, 0, 0));
        due.is("its TYPE", 3, below.ran(0));
    }

    private static void theTrace() {
        due.of("THE TRACE has an entry, 16 times a number and a sort, for each");
        FrameForge x = new FrameForge();
        Words.putLocked(x, 0, 0, "INT 7; SAY; NEW 6; DUP; ENTER; DUP; LEAVE; THROW; TYPE; RETURN");
        x.row(0, 7, 8, 8, 2);
        due.is("run", 0, x.run(0, 0, 99, 0, 0, 0));
        due.of("5 a ROW HAS it (its TYPE)");
        due.trace("each sort", x, 16 * 4000 + 2, 16 * 7, 16 * 6 + 1, 16 + 2, 16 + 3, 16 * 6 + 4, 16 * 6 + 5, 16 * 4000 + 3);
    }

    private static void theChecker() {
        due.of("THE CHECKER goes through a METHOD");
        due.is("METHOD 3 alone", WRONG, Words.forge(0, "INT 0; RETURN").check(3));
        FrameForge x = Words.forge(0, "CALL 3; RETURN");
        due.is("not through those that it CALLS", 2, x.check(0));
        x.method(3, 1, false);
        due.is("but by their ARGUMENTS", WRONG, x.check(0));
    }

    private static void toReplace() {
        due.of("TO REPLACE the INSTRUCTION at PLACE p of a METHOD by n others: they come in its stead");
        FrameForge x = Words.forge(0, "GOTO 2; NOP; GOSUB 6; GOTO 4; INT 0; RETURN; STORE 7; INT 1; SAY; BACK 7");
        due.is("by two", 11, x.unfold(0, 2));
        due.code("by two", x, 0, Words.code("GOTO 2; NOP; INT 1; SAY; GOTO 5; INT 0; RETURN; STORE 7; INT 1; SAY; BACK 7"));
    }

    private static void constants() {
        due.of("`REFUSED = -1`: A number is not as said.");
        FrameForge x = Words.forge(0, "GOTO 0");
        due.is("METHOD 6", -1, x.check(6));
        due.of("`NONE = -2`: There is no such thing, or it is not as it must be.");
        due.is("no INSTRUCTION", -2, x.code(0, 1, 0));
        due.is("no GOSUB", -2, x.unfold(0, 0));
        due.of("`FULL = -3`: There is no room.");
        for (int i = 0; i < 60; i++) {
            x.add(1, 0, 0, 0);
        }
        due.is("no room", -3, x.add(1, 0, 0, 0));
        due.of("`WRONG = -4`: A METHOD is WRONG.");
        due.is("METHOD 1", -4, x.check(1));
        due.of("`STOPPED = -5`: A run was STOPPED.");
        due.is("METHOD 0", -5, x.run(0, 0, 1000, 0, 0, 0));
    }

    private static void kindsByNumber() {
        due.of("By the CHECKER, at PLACE p of METHOD m");
        FrameForge x = new FrameForge();
        Words.put(x, 4, 1, "NULL; STORE 1; GOSUB 5; INT 0; RETURN; STORE 2; LOAD 1; LOAD 0; BACK 2");
        due.is("all PLACES may be come to", 9, x.check(4));
        due.of(": 0 int, 1 OBJECT, 10 and b a RETURN of PLACE b");
        int[][] want = {{0, 10, 0}, {0, 11, NONE}, {1, 0, 1}, {2, 11, 1}, {2, 12, NONE}, {5, 0, 15}, {6, 12, 15}, {7, 0, 1}, {8, 0, 1}, {8, 1, 0}, {8, 2, NONE}, {3, 1, 0}, {3, 12, 15}, {4, 2, 0}};
        for (int[] one : want) {
            due.is("kindAt(4, " + one[0] + ", " + one[1] + ")", one[2], x.kindAt(4, one[0], one[1]));
        }
        FrameForge last = new FrameForge();
        Words.put(last, 5, 0, "GOTO 58; 57*NOP; GOSUB 59; THROW");
        due.is("a THROW of a RETURN", WRONG, last.check(5));
        last.change(5, 59, 11, 0, 59);
        due.is("STACKS that come together", 3, last.check(5));
        due.is("a RETURN of PLACE 59", 69, last.kindAt(5, 59, 0));
    }

    private static void latestRun() {
        due.of("Of the latest run");
        FrameForge x = Words.forge(1, "LOAD 0; SAY; LOAD 0; RETURN");
        x.run(0, 0, 99, 5, 0, 0);
        x.run(0, 0, 99, 6, 0, 0);
        due.is("VALUE", 6, x.ran(0));
        due.is("entry", 96, x.trace(0));
        due.of("4: entries of the TRACE");
        due.is("entries", 1, x.ran(4));
        x.add(0, 0, 0, 0);
        x.method(0, 0, false);
        x.branch();
        x.check(0);
        due.is("no other call changes what is told of it", 6, x.ran(0));
        due.is("nor its TRACE", 96, x.trace(0));
        due.is("nor its entries", 1, x.ran(4));
    }

    private static void compareZeroFirst() {
        due.of("0 first");
        FrameForge x = Words.forge(0, "INT 5; RETURN");
        x.branch();
        x.change(0, 0, 1, 6, 0);
        due.is("other VALUES", 1, x.compare(0, 0, 0, 0));
        due.is("that of PROGRAM 1 came last", 6, x.ran(0));
        x.write(0);
        due.is("whichever is WRITTEN", 1, x.compare(0, 0, 0, 0));
        due.is("that of PROGRAM 1 came last then too", 6, x.ran(0));
    }

    private static void unfold() {
        due.of("In METHOD m of the PROGRAM that is WRITTEN the GOSUB b at PLACE p is REPLACED by what lies between b and e of the SUBROUTINE at b, if that is PLAIN");
        String words = "GOSUB 3; LOAD 0; RETURN; STORE 7; INC 0 1; INC 0 2; BACK 7";
        for (int m = 0; m < 6; m++) {
            FrameForge x = new FrameForge();
            Words.put(x, m, 1, words);
            x.branch();
            due.is("METHOD " + m, 8, x.unfold(m, 0));
            due.code("METHOD " + m, x, m, Words.code("INC 0 1; INC 0 2; LOAD 0; RETURN; STORE 7; INC 0 1; INC 0 2; BACK 7"));
            due.is("it does the same", 0, x.compare(m, 5, 0, 0));
            x.write(0);
            due.code("the other PROGRAM is as it was", x, m, Words.code(words));
            x.change(m, 3, 4, 0, 0);
            x.change(m, 6, 11, 0, 1);
            due.is("not PLAIN", NONE, x.unfold(m, 0));
        }
        due.of("How many INSTRUCTIONS the METHOD has then.");
        for (int n = 0; n < 5; n++) {
            FrameForge x = Words.forge(0, "GOSUB 3; INT 0; RETURN; STORE 7; " + n + "*NOP; BACK 7");
            due.is("unfold to " + n, 5 + n + n - 1, x.unfold(0, 0));
            due.is("so many it has", 5 + n + n - 1, x.table(0, -1, 0));
        }
    }

    private static void unfoldRowsBelow() {
        due.of("for what it has of PLACES below p");
        int[][] spans = {{0, 1, 0, 1}, {0, 2, 0, 2}, {0, 3, 0, 2}, {1, 2, 1, 2}, {1, 3, 1, 2}};
        for (int[] span : spans) {
            FrameForge x = Words.forge(0, "NOP; NOP; GOSUB 6; INT 0; RETURN; NOP; STORE 7; NOP; NOP; BACK 7; THROW");
            x.row(0, span[0], span[1], 10, 5);
            due.is("unfold", 12, x.unfold(0, 2));
            due.rows("ROW " + span[0] + " to " + span[1], x, 0, Due.in(span[2], span[3], 11, 5));
        }
    }

    private static void inline() {
        due.of("In METHOD m of the PROGRAM that is WRITTEN the CALL c at PLACE p is REPLACED by");
        for (int m = 0; m < 6; m++) {
            int c = 5 - m;
            FrameForge x = new FrameForge();
            Words.put(x, m, 1, "LOAD 0; CALL " + c + "; RETURN");
            Words.put(x, c, 1, "LOAD 0; INT 2; MUL; RETURN");
            x.branch();
            due.is("METHOD " + m, 7, x.inline(m, 1));
            due.code("METHOD " + m, x, m, Words.code("LOAD 0; STORE 1; LOAD 1; INT 2; MUL; GOTO 6; RETURN"));
            due.is("it does the same", 0, x.compare(m, 5, 0, 0));
            due.is("in one FRAME", 1, x.ran(3));
            x.write(0);
            due.code("the other PROGRAM is as it was", x, m, Words.code("LOAD 0; CALL " + c + "; RETURN"));
            due.is("REFUSED", REFUSED, x.inline(6, 1));
            due.is("STOPPED", STOPPED, x.run(0, m, 3, 1, 0, 0));
        }
    }
}
