/** Promises 10 to 13, sentence by sentence: the last numbers on each side of each boundary. */
final class BoundsOfRunsTest {
    private static final int MIN = Integer.MIN_VALUE;
    private static final int MAX = Integer.MAX_VALUE;
    private static final int REFUSED = FrameForge.REFUSED;
    private static final int NONE = FrameForge.NONE;
    private static final int WRONG = FrameForge.WRONG;
    private static final int STOPPED = FrameForge.STOPPED;
    private static final int[] NO_METHODS = {MIN, -1, 6, MAX};
    private static final Due due = new Due();

    public static void main(String[] args) {
        runNumbers();
        runLimits();
        runEndings();
        runStopped();
        runWrong();
        latestRunStays();
        ranNumbers();
        ranBeforeARun();
        ranValue();
        ranInstructions();
        ranFrames();
        ranHad();
        traceNumbers();
        traceIsKept();
        compareSame();
        compareOtherwise();
        compareTraces();
        compareKeptTraces();
        compareStopped();
        compareRefused();
        due.end();
    }

    private static void runNumbers() {
        due.of("A run of METHOD m (0 to 5) of PROGRAM p (0, 1)");
        FrameForge x = new FrameForge();
        for (int p = 0; p < 2; p++) {
            x.write(p);
            for (int m = 0; m < 6; m++) {
                Words.put(x, m, 0, "INT " + (10 * p + m) + "; RETURN");
            }
        }
        for (int p = 0; p < 2; p++) {
            for (int m = 0; m < 6; m++) {
                due.is("run(" + p + ", " + m + ")", 0, x.run(p, m, 2, 0, 0, 0));
                due.is("VALUE", 10 * p + m, x.ran(0));
            }
        }
        due.of("REFUSED if a number is not as said");
        int[] programs = {MIN, -1, 2, MAX};
        for (int p : programs) {
            due.is("PROGRAM " + p, REFUSED, x.run(p, 0, 2, 0, 0, 0));
        }
        for (int m : NO_METHODS) {
            due.is("METHOD " + m, REFUSED, x.run(0, m, 2, 0, 0, 0));
        }
        int[] limits = {MIN, -1, 1001, MAX};
        for (int limit : limits) {
            due.is("limit " + limit, REFUSED, x.run(0, 0, limit, 0, 0, 0));
        }
        due.is("any int is an ARGUMENT", 0, x.run(0, 0, 2, MIN, MAX, -1));
        x.method(0, 0, false);
        due.is("REFUSED is said before WRONG, by p", REFUSED, x.run(2, 0, 2, 0, 0, 0));
        due.is("by limit", REFUSED, x.run(1, 0, 1001, 0, 0, 0));
        due.is("WRONG", WRONG, x.run(1, 0, 1000, 0, 0, 0));
        due.is("the other PROGRAM is not", 0, x.run(0, 0, 1000, 0, 0, 0));
    }

    private static void runLimits() {
        due.of("of at most limit (0 to 1000) INSTRUCTIONS");
        FrameForge loop = Words.forge(0, "GOTO 0");
        int[] limits = {0, 1, 999, 1000};
        for (int limit : limits) {
            due.is("limit " + limit, STOPPED, loop.run(0, 0, limit, 0, 0, 0));
            due.is("INSTRUCTIONS with limit " + limit, limit, loop.ran(1));
        }
        due.is("limit 1001", REFUSED, loop.run(0, 0, 1001, 0, 0, 0));
        due.is("limit -1", REFUSED, loop.run(0, 0, -1, 0, 0, 0));
        due.is("the run with 1000 is the latest still", 1000, loop.ran(1));
        FrameForge x = Words.forge(1, "INC 0 -1; LOAD 0; IF 1 0; LOAD 0; RETURN");
        due.is("998 INSTRUCTIONS", 0, x.run(0, 0, 1000, 332, 0, 0));
        due.is("how many", 998, x.ran(1));
        due.is("1001 INSTRUCTIONS", STOPPED, x.run(0, 0, 1000, 333, 0, 0));
        x.change(0, 3, 1, 5, 0);
        x.change(0, 4, 25, 0, 0);
        x.add(0, 1, 6, 0);
        x.add(0, 22, 0, 0);
        due.is("1000 INSTRUCTIONS", 0, x.run(0, 0, 1000, 332, 0, 0));
        due.is("how many", 1000, x.ran(1));
        due.is("999 of them", STOPPED, x.run(0, 0, 999, 332, 0, 0));
    }

    private static void runEndings() {
        due.of("0 if it RETURNED, 16 and the TYPE of what it ended by");
        FrameForge x = Words.forge(1, "LOAD 0; RETURN");
        due.is("RETURNED 0", 0, x.run(0, 0, 9, 0, 0, 0));
        due.is("RETURNED -5", 0, x.run(0, 0, 9, -5, 0, 0));
        due.is("its VALUE", -5, x.ran(0));
        due.is("RETURNED 16", 0, x.run(0, 0, 9, 16, 0, 0));
        for (int type = 0; type < 8; type++) {
            due.is("TYPE " + type, 16 + type, Words.forge(0, "NEW " + type + "; THROW").run(0, 0, 9, 0, 0, 0));
        }
        due.is("by DIV", 17, Words.forge(0, "INT 1; INT 0; DIV; RETURN").run(0, 0, 9, 0, 0, 0));
        due.is("by null", 18, Words.forge(0, "NULL; GET; RETURN").run(0, 0, 9, 0, 0, 0));
        due.is("by LOCK", 19, Words.forge(0, "NEW 0; ENTER; INT 0; RETURN").run(0, 0, 9, 0, 0, 0));
        due.is("by depth", 20, Words.forge(0, "CALL 0; RETURN").run(0, 0, 99, 0, 0, 0));
    }

    private static void runStopped() {
        due.of("or STOPPED, before one more would have been done");
        String[] codes = {"INT 1; RETURN", "NEW 7; THROW", "NOP; NOP; NOP; NEW 0; ENTER; INT 1; RETURN", "CALL 1; CALL 1; ADD; RETURN",
            "GOSUB 3; INT 1; RETURN; STORE 0; BACK 0"};
        int[] needs = {2, 2, 7, 10, 5};
        int[] endings = {0, 23, 19, 0, 0};
        for (int i = 0; i < codes.length; i++) {
            FrameForge x = Words.forge(0, codes[i]);
            Words.put(x, 1, 0, "NOP; INT 4; RETURN");
            for (int limit = 0; limit <= needs[i] + 1; limit++) {
                boolean enough = limit >= needs[i];
                due.is(codes[i] + " with limit " + limit, enough ? endings[i] : STOPPED, x.run(0, 0, limit, 0, 0, 0));
                due.is("INSTRUCTIONS", Math.min(limit, needs[i]), x.ran(1));
                due.is("no VALUE yet", enough && endings[i] == 0 ? i == 3 ? 8 : 1 : 0, x.ran(0));
            }
        }
        FrameForge x = new FrameForge();
        Words.putLocked(x, 4, 0, "INT 1; SAY; INT 1; RETURN");
        due.is("a LOCKED METHOD with limit 0", STOPPED, x.run(0, 4, 0, 0, 0, 0));
        due.is("its FRAME has begun", 1, x.ran(3));
        due.trace("and its lock is ENTERED", x, 4004 * 16 + 2);
        due.is("with limit 2", STOPPED, x.run(0, 4, 2, 0, 0, 0));
        due.trace("what it had SAID", x, 4004 * 16 + 2, 16);
    }

    private static void runWrong() {
        due.of("WRONG if a METHOD is so that is m or CALLED by it, or by one that is so CALLED (by any CALL in their CODE)");
        FrameForge x = new FrameForge();
        for (int m = 0; m < 6; m++) {
            Words.put(x, m, 0, "INT 1; RETURN; CALL " + (m + 1) % 6);
        }
        due.is("a ring of CALLS, none WRONG", 0, x.run(0, 3, 9, 0, 0, 0));
        for (int m = 0; m < 6; m++) {
            x.change(m, 1, 4, 0, 0);
            x.change(m, 2, 0, 0, 0);
            due.is("METHOD " + m + " is WRONG", WRONG, x.check(m));
            for (int first = 0; first < 6; first++) {
                due.is("run of " + first + " with " + m + " WRONG", WRONG, x.run(0, first, 9, 0, 0, 0));
            }
            Words.put(x, m, 0, "INT 1; RETURN; CALL " + (m + 1) % 6);
        }
        FrameForge y = Words.forge(0, "INT 1; RETURN");
        due.is("one that is WRONG, and not CALLED", 0, y.run(0, 0, 9, 0, 0, 0));
        y.add(0, 21, 1, 0);
        due.is("CALLED where nothing comes to", WRONG, y.run(0, 0, 9, 0, 0, 0));
        due.is("WRONG with limit 0 too", WRONG, y.run(0, 0, 0, 0, 0, 0));
        Words.put(y, 1, 0, "INT 1; RETURN");
        due.is("mended", 0, y.run(0, 0, 9, 0, 0, 0));
        y.write(1);
        Words.put(y, 0, 0, "CALL 1; RETURN");
        due.is("METHOD 1 of the same PROGRAM is meant", WRONG, y.run(1, 0, 9, 0, 0, 0));
        Words.put(y, 1, 0, "CALL 1; RETURN");
        due.is("one that CALLS itself", STOPPED, y.run(1, 1, 9, 0, 0, 0));
    }

    private static void latestRunStays() {
        due.of("the latest run stays then");
        FrameForge x = Words.forge(0, "NEW 7; THROW; POP; INT 3; SAY; INT 42; RETURN");
        x.row(0, 1, 2, 2, 0);
        x.run(0, 0, 99, 0, 0, 0);
        int[] want = {42, 7, 1, 1, 4, 1};
        int[][] calls = {{0, 1, 9, WRONG}, {0, 6, 9, REFUSED}, {2, 0, 9, REFUSED}, {0, 0, 1001, REFUSED}};
        for (int[] call : calls) {
            due.is("run", call[3], x.run(call[0], call[1], call[2], 0, 0, 0));
            for (int what = 0; what < 6; what++) {
                due.is("ran(" + what + ")", want[what], x.ran(what));
            }
            due.trace("its TRACE", x, 113, 116, 117, 48);
        }
        x.method(0, 0, false);
        due.is("it stays when its METHOD is gone", 42, x.ran(0));
        due.is("and its TRACE", 113, x.trace(0));
    }

    private static void ranNumbers() {
        due.of("REFUSED for others");
        int[] whats = {MIN, -1, 6, MAX};
        FrameForge x = Words.forge(0, "INT 1; RETURN");
        for (int i = 0; i < 2; i++) {
            for (int what : whats) {
                due.is("ran(" + what + ")", REFUSED, x.ran(what));
            }
            x.run(0, 0, 9, 0, 0, 0);
        }
    }

    private static void ranBeforeARun() {
        due.of("0 for all if there was none");
        FrameForge x = Words.forge(0, "INT 1; RETURN");
        x.run(0, 1, 9, 0, 0, 0);
        x.run(0, 0, -1, 0, 0, 0);
        x.compare(0, 0, 0, 0);
        for (int what = 0; what < 6; what++) {
            due.is("ran(" + what + ")", 0, x.ran(what));
        }
        due.is("no entry", NONE, x.trace(0));
    }

    private static void ranValue() {
        due.of("what 0: the VALUE (0 if it did not RETURN)");
        FrameForge x = Words.forge(1, "LOAD 0; IF 2 6; LOAD 0; IF 0 8; INT 42; RETURN; NULL; THROW; GOTO 8");
        due.is("RETURNED", 0, x.run(0, 0, 99, 1, 0, 0));
        due.is("VALUE", 42, x.ran(0));
        due.is("ended by NULL", 18, x.run(0, 0, 99, -1, 0, 0));
        due.is("no VALUE", 0, x.ran(0));
        x.run(0, 0, 99, 1, 0, 0);
        due.is("STOPPED", STOPPED, x.run(0, 0, 99, 0, 0, 0));
        due.is("no VALUE", 0, x.ran(0));
        due.is("STOPPED before RETURN", STOPPED, x.run(0, 0, 5, 1, 0, 0));
        due.is("no VALUE", 0, x.ran(0));
        due.is("not before RETURN", 0, x.run(0, 0, 6, 1, 0, 0));
        due.is("VALUE", 42, x.ran(0));
    }

    private static void ranInstructions() {
        due.of("1: INSTRUCTIONS done (also such as threw), 2: OBJECTS made");
        FrameForge x = Words.forge(0, "INT 1; INT 0; DIV; RETURN; POP; NULL; GET; RETURN; GET; RETURN");
        x.row(0, 2, 3, 4, 1);
        x.row(0, 6, 7, 8, 2);
        due.is("two that threw", 0, x.run(0, 0, 99, 0, 0, 0));
        due.is("INSTRUCTIONS", 8, x.ran(1));
        due.is("OBJECTS", 2, x.ran(2));
        FrameForge deep = Words.forge(0, "CALL 0; RETURN");
        deep.run(0, 0, 99, 0, 0, 0);
        due.is("a CALL that threw", 12, deep.ran(1));
        due.is("OBJECTS", 1, deep.ran(2));
        FrameForge none = Words.forge(0, "NULL; POP; INT 0; RETURN");
        none.run(0, 0, 99, 0, 0, 0);
        due.is("null is no OBJECT that is made", 0, none.ran(2));
    }

    private static void ranFrames() {
        due.of("3: the most FRAMES at one time");
        FrameForge x = Words.forge(1, "LOAD 0; IF 0 6; INC 0 -1; LOAD 0; CALL 0; RETURN; CALL 1; POP; CALL 1; RETURN");
        Words.put(x, 1, 0, "INT 1; RETURN");
        for (int down = 0; down <= 11; down++) {
            due.is("run " + down, down == 11 ? 20 : 0, x.run(0, 0, 1000, down, 0, 0));
            due.is("FRAMES of run " + down, Math.min(12, down + 2), x.ran(3));
        }
        x.run(0, 1, 0, 0, 0, 0);
        due.is("of a run with limit 0", 1, x.ran(3));
    }

    private static void ranHad() {
        due.of("5: how many times a ROW HAD something");
        FrameForge x = Words.forge(1, "LOAD 0; IF 0 7; INC 0 -1; NULL; THROW; POP; GOTO 0; INT 1; RETURN");
        x.row(0, 4, 5, 5, 2);
        for (int times = 0; times <= 3; times++) {
            due.is("run", 0, x.run(0, 0, 1000, times, 0, 0));
            due.is(times + " times", times, x.ran(5));
            due.is("entries", 3 * times, x.ran(4));
        }
        due.is("THROWN, and no ROW HAD it", 18, Words.forge(0, "NULL; THROW").run(0, 0, 9, 0, 0, 0));
    }

    private static void traceNumbers() {
        due.of("NONE if there is none");
        FrameForge x = Words.forge(1, "LOAD 0; IF 0 4; INT 9; SAY; INT 1; RETURN");
        int[] ks = {MIN, -1, 0, 119, 120, MAX};
        for (int k : ks) {
            due.is("before a run, " + k, NONE, x.trace(k));
        }
        x.run(0, 0, 99, 1, 0, 0);
        due.is("entry 0 of one", 9 * 16, x.trace(0));
        due.is("entry 1 of one", NONE, x.trace(1));
        due.is("entry -1 of one", NONE, x.trace(-1));
        x.run(0, 0, 99, 0, 0, 0);
        due.is("entry 0 of none", NONE, x.trace(0));
    }

    /** Says 0, 1, .. as many times as its ARGUMENT tells, then its VALUE is 5. */
    private static final String SAYS = "INT 0; STORE 1; LOAD 0; IF 0 9; LOAD 1; SAY; INC 1 1; INC 0 -1; GOTO 2; INT 5; RETURN";

    private static void traceIsKept() {
        due.of("Entry k (0 the first; the first 120 are kept) of the TRACE of the latest run");
        FrameForge x = Words.forge(1, SAYS);
        for (int says = 118; says <= 122; says++) {
            due.is("run", 0, x.run(0, 0, 1000, says, 0, 0));
            due.is("entries of " + says, says, x.ran(4));
            for (int k = 117; k <= 122; k++) {
                due.is("entry " + k + " of " + says, k < says && k < 120 ? 16 * k : NONE, x.trace(k));
            }
            due.is("the first", 0, x.trace(0));
            due.is("the second", 16, x.trace(1));
        }
        due.is("run", 0, x.run(0, 0, 1000, 2, 0, 0));
        due.is("no entry is left of the run before", NONE, x.trace(2));
    }

    private static FrameForge two(int zeroTakes, String zero, int oneTakes, String one) {
        FrameForge x = new FrameForge();
        Words.put(x, 0, zeroTakes, zero);
        x.write(1);
        Words.put(x, 0, oneTakes, one);
        return x;
    }

    private static int compared(String zero, String one) {
        return two(0, zero, 0, one).compare(0, 0, 0, 0);
    }

    private static void compareSame() {
        due.of("METHOD m of both PROGRAMS is run with the same ARGUMENTS");
        String words = "LOAD 0; LOAD 1; SUB; LOAD 2; MUL; RETURN";
        FrameForge x = two(3, words, 3, "LOAD 1; LOAD 0; SUB; INT -1; MUL; LOAD 2; MUL; RETURN");
        due.is("x, y, z", 0, x.compare(0, 7, 3, 5));
        due.is("VALUE", 20, x.ran(0));
        due.is("any ints", 0, x.compare(0, MIN, MAX, -1));
        FrameForge less = two(1, "LOAD 0; RETURN", 3, "LOAD 2; RETURN");
        due.is("another number of ARGUMENTS, x as z", 0, less.compare(0, 4, 0, 4));
        due.is("another number of ARGUMENTS, x not as z", 1, less.compare(0, 4, 0, 5));
        due.of("0 if both came to the same, with the same VALUE, and the same TRACE");
        due.is("other INSTRUCTIONS, OBJECTS and FRAMES alike", 0, compared("INT 1; RETURN", "NOP; INT 3; INT 2; SUB; RETURN"));
        due.is("the same TYPE", 0, compared("NEW 3; THROW", "NOP; NEW 3; THROW"));
        due.is("a limit of 1000 each", 0, compared("INT 1; RETURN", "INT 1; RETURN"));
        due.of("The latest run is that of PROGRAM 1 then");
        FrameForge latest = two(0, "INT 1; SAY; INT 5; RETURN", 0, "INT 2; SAY; NOP; INT 6; RETURN");
        latest.compare(0, 0, 0, 0);
        due.is("VALUE", 6, latest.ran(0));
        due.is("INSTRUCTIONS", 5, latest.ran(1));
        due.trace("TRACE", latest, 32);
        due.is("WRITTEN is as before", 5, latest.table(0, -1, 0));
    }

    private static void compareOtherwise() {
        due.of("1 if both RETURNED other VALUES, or ended otherwise");
        due.is("VALUES", 1, compared("INT 1; RETURN", "INT 2; RETURN"));
        due.is("VALUES, and another TRACE", 1, compared("INT 1; RETURN", "INT 7; SAY; INT 2; RETURN"));
        due.is("0 RETURNED, 1 did not", 1, compared("INT 0; RETURN", "NEW 0; THROW"));
        due.is("1 RETURNED, 0 did not", 1, compared("NEW 0; THROW", "INT 0; RETURN"));
        due.is("VALUE 16 and TYPE 0", 1, compared("INT 16; RETURN", "NEW 0; THROW"));
        due.is("other TYPES", 1, compared("NEW 5; THROW", "NEW 7; THROW"));
        due.is("TYPES one above the other", 1, compared("NEW 0; THROW", "NEW 1; THROW"));
    }

    private static void compareTraces() {
        due.of("2 if just the TRACE is another one");
        due.is("another number is SAID", 2, compared("INT 1; SAY; INT 0; RETURN", "INT 2; SAY; INT 0; RETURN"));
        due.is("the same 16 bits are SAID", 0, compared("INT 1; SAY; INT 0; RETURN", "INT 65537; SAY; INT 0; RETURN"));
        due.is("one entry more", 2, compared("INT 0; RETURN", "INT 2; SAY; INT 0; RETURN"));
        due.is("one entry less", 2, compared("INT 2; SAY; INT 0; RETURN", "INT 0; RETURN"));
        due.is("an entry of another sort", 2, compared("NEW 0; POP; INT 0; RETURN", "INT 0; SAY; INT 0; RETURN"));
        due.is("another OBJECT is made", 2, compared("NEW 0; POP; INT 0; RETURN", "NEW 1; POP; INT 0; RETURN"));
        due.is("ended alike, THROWN otherwise", 2, compared("NULL; THROW", "NEW 2; STORE 0; LOAD 0; DUP; ENTER; LEAVE; LOAD 0; THROW"));
        due.is("ended alike, by NEW and by DIV", 0, compared("NEW 1; THROW", "INT 1; INT 0; DIV; RETURN"));
        FrameForge locked = two(0, "INT 1; RETURN", 0, "NOP");
        Words.putLocked(locked, 0, 0, "INT 1; RETURN");
        due.is("one is LOCKED", 2, locked.compare(0, 0, 0, 0));
    }

    private static void compareKeptTraces() {
        due.of("the same TRACE (as far as it is kept, and how many entries)");
        String other = SAYS.replace("INT 5; RETURN", "INT 7; SAY; INT 5; RETURN");
        String another = SAYS.replace("INT 5; RETURN", "INT 8; SAY; INT 5; RETURN");
        for (int says = 118; says <= 121; says++) {
            // The entry that differs is entry number says: 119 is the last one that is kept.
            due.is("other entries behind " + says, says <= 119 ? 2 : 0, two(1, other, 1, another).compare(0, says, 0, 0));
            due.is("one entry more behind " + says, 2, two(1, SAYS, 1, other).compare(0, says, 0, 0));
            due.is("one entry less behind " + says, 2, two(1, other, 1, SAYS).compare(0, says, 0, 0));
            due.is("the same behind " + says, 0, two(1, other, 1, other).compare(0, says, 0, 0));
        }
    }

    private static void compareStopped() {
        due.of("3 if one was STOPPED (this first)");
        due.is("0", 3, compared("GOTO 0", "INT 0; RETURN"));
        due.is("1", 3, compared("INT 0; RETURN", "GOTO 0"));
        due.is("both", 3, compared("GOTO 0", "GOTO 0"));
        due.is("0, and 1 ended by an OBJECT", 3, compared("GOTO 0", "NEW 0; THROW"));
        due.is("1, and another TRACE", 3, compared("INT 4; SAY; INT 0; RETURN", "GOTO 0"));
        due.of("and a limit of 1000");
        String count = "INC 0 -1; LOAD 0; IF 1 0; ";
        String enough = count + "NOP; NOP; INT 1; RETURN";
        String tooMany = count + "NOP; NOP; NOP; INT 1; RETURN";
        due.is("1000 INSTRUCTIONS each", 0, two(1, enough, 1, enough).compare(0, 332, 0, 0));
        due.is("1001 INSTRUCTIONS of 0", 3, two(1, tooMany, 1, enough).compare(0, 332, 0, 0));
        due.is("1001 INSTRUCTIONS of 1", 3, two(1, enough, 1, tooMany).compare(0, 332, 0, 0));
    }

    private static void compareRefused() {
        due.of("REFUSED, WRONG as for run (of either)");
        FrameForge x = two(0, "INT 1; RETURN", 0, "INT 2; RETURN");
        x.run(0, 0, 9, 0, 0, 0);
        for (int m : NO_METHODS) {
            due.is("METHOD " + m, REFUSED, x.compare(m, 0, 0, 0));
        }
        due.is("METHOD 5, WRONG in both", WRONG, x.compare(5, 0, 0, 0));
        x.method(0, 0, false);
        due.is("WRONG in PROGRAM 1", WRONG, x.compare(0, 0, 0, 0));
        Words.put(x, 0, 0, "INT 2; RETURN; CALL 3");
        due.is("WRONG by a CALL in PROGRAM 1", WRONG, x.compare(0, 0, 0, 0));
        Words.put(x, 0, 0, "INT 2; RETURN");
        due.is("the latest run stays", 1, x.ran(0));
        x.write(0);
        Words.put(x, 0, 0, "INT 1; RETURN; CALL 3");
        due.is("WRONG by a CALL in PROGRAM 0", WRONG, x.compare(0, 0, 0, 0));
        due.is("the latest run stays then too", 1, x.ran(0));
        Words.put(x, 3, 0, "INT 1; RETURN");
        due.is("neither is WRONG", 1, x.compare(0, 0, 0, 0));
        due.is("the latest run", 2, x.ran(0));
    }
}
