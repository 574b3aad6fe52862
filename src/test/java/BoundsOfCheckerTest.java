/** THE CHECKER of "Terms", and promises 8 and 9, sentence by sentence. */
final class BoundsOfCheckerTest {
    private static final int MIN = Integer.MIN_VALUE;
    private static final int MAX = Integer.MAX_VALUE;
    private static final int REFUSED = FrameForge.REFUSED;
    private static final int NONE = FrameForge.NONE;
    private static final int WRONG = FrameForge.WRONG;
    private static final int[] NO_METHODS = {MIN, -1, 6, MAX};
    private static final Due due = new Due();

    public static void main(String[] args) {
        atPlaceZero();
        kinds();
        whereOneGoesOn();
        backs();
        rowsThatHaveThePlace();
        whatARowBrings();
        localsByAllWays();
        whatEachTakes();
        whatCallTakes();
        whatLocalsMustHold();
        ninthValue();
        noPlace();
        stacksThatDiffer();
        noInstruction();
        onlyWhatIsComeTo();
        check();
        kindAtNumbers();
        kindAtNone();
        due.end();
    }

    private static void atPlaceZero() {
        due.of("from PLACE 0 on, with nothing on the STACK, ints in as many LOCALS, from 0 on, as it takes ARGUMENTS, and nothing in the others");
        for (int takes = 0; takes <= 3; takes++) {
            FrameForge x = Words.forge(takes, "INT 0; RETURN");
            due.is("VALUES on the STACK", 0, x.kindAt(0, 0, -1));
            for (int local = 0; local < 8; local++) {
                due.is(takes + " ARGUMENTS, LOCAL " + local, local < takes ? 0 : NONE, x.kindAt(0, 0, 10 + local));
            }
            due.is("LOAD of the LOCAL behind the last", WRONG, Words.check(takes, "LOAD " + takes + "; RETURN"));
            if (takes > 0) {
                due.is("LOAD of the last", 2, Words.check(takes, "LOAD " + (takes - 1) + "; RETURN"));
            }
        }
        due.is("POP at PLACE 0", WRONG, Words.check(3, "POP; INT 0; RETURN"));
        due.is("PLACE 0 again, with nothing on the STACK", 3, Words.check(0, "INT 1; POP; GOTO 0"));
        due.is("PLACE 0 again, with something", WRONG, Words.check(0, "INT 1; GOTO 0"));
    }

    private static void kinds() {
        due.of("KINDS are int, OBJECT (null too), and RETURN of each PLACE");
        due.is("null and an OBJECT come together", 7, Words.check(1, "LOAD 0; IF 0 4; NULL; GOTO 5; NEW 3; POP; GOTO 6"));
        FrameForge x = Words.forge(0, "INT 1; NULL; NEW 7; GOSUB 4; GOTO 4");
        int[] want = {0, 1, 1, 14};
        for (int i = 0; i < 4; i++) {
            due.is("KIND " + i, want[i], x.kindAt(0, 4, i));
        }
        due.is("a RETURN of PLACE 1", 11, Words.forge(0, "GOSUB 1; GOTO 1").kindAt(0, 1, 0));
        FrameForge last = Words.forge(0, "GOSUB 59; 58*NOP; GOTO 59");
        due.is("nothing between is come to", 2, last.check(0));
        due.is("a RETURN of PLACE 59", 69, last.kindAt(0, 59, 0));
        FrameForge local = Words.forge(0, "GOSUB 58; 57*NOP; STORE 7; GOTO 59");
        due.is("in LOCAL 7", 68, local.kindAt(0, 59, 17));
        due.is("no RETURN of PLACE 0, where nothing is on the STACK", WRONG, Words.check(0, "GOTO 1; GOSUB 0"));
    }

    private static void whereOneGoesOn() {
        due.of("From each PLACE that may be come to it goes on where one may go on");
        due.is("GOTO: b alone", 3, Words.check(0, "GOTO 2; NOP; INT 0; RETURN"));
        due.is("IF: b and behind", 6, Words.check(1, "LOAD 0; IF 0 4; INT 0; RETURN; INT 1; RETURN"));
        due.is("IF NULL: b and behind", 6, Words.check(1, "NULL; IFNULL 4; INT 0; RETURN; INT 1; RETURN"));
        due.is("RETURN: nowhere", 2, Words.check(0, "INT 0; RETURN; POP"));
        due.is("THROW: nowhere", 2, Words.check(0, "NULL; THROW; POP"));
        due.is("GOSUB: b alone", 4, Words.check(0, "GOSUB 2; POP; STORE 0; INT 0; RETURN"));
        due.is("CALL: behind", 2, Words.check(0, "CALL 1; RETURN"));
        due.is("DIV: behind", 4, Words.check(0, "INT 1; INT 0; DIV; RETURN"));
        due.is("60 PLACES", 60, Words.check(0, "58*NOP; INT 0; RETURN"));
        due.is("from PLACE 59 to PLACE 0", 60, Words.check(0, "59*NOP; GOTO 0"));
    }

    private static void backs() {
        due.of("BACK, where LOCAL a has a RETURN of PLACE b, behind each GOSUB b at a PLACE that may be come to");
        due.is("one GOSUB", 5, Words.check(0, "GOSUB 3; INT 0; RETURN; STORE 7; BACK 7"));
        due.is("two GOSUBS", 6, Words.check(0, "GOSUB 4; GOSUB 4; INT 0; RETURN; STORE 7; BACK 7"));
        due.is("a GOSUB that is not come to", 5, Words.check(0, "GOSUB 5; INT 0; RETURN; GOSUB 5; POP; STORE 7; BACK 7"));
        due.is("a GOSUB of another subroutine", 7, Words.check(0, "GOSUB 4; GOSUB 6; INT 0; RETURN; STORE 1; BACK 1; STORE 2; INT 0; RETURN"));
        due.is("a GOSUB that is come to behind the BACK", 9,
            Words.check(0, "GOTO 5; GOSUB 3; GOTO 7; STORE 1; BACK 1; GOSUB 3; GOTO 1; INT 0; RETURN"));
        due.is("a GOSUB that is come to long behind the BACK", 11,
            Words.check(0, "GOTO 5; GOSUB 3; GOTO 9; STORE 1; BACK 1; GOSUB 3; GOTO 8; GOTO 1; GOTO 7; INT 0; RETURN"));
        due.is("a GOSUB that is come to only by a ROW", 8, backByRow());
        due.is("BACK once more by the same RETURN", 4, Words.check(0, "GOSUB 3; BACK 7; NOP; STORE 7; BACK 7"));
        String two = "LOAD 0; IF 0 4; GOSUB 6; GOTO 3; GOSUB 8; GOTO 5; STORE 1; GOTO 10; STORE 1; GOTO 10; ";
        due.is("RETURNS of two PLACES in one LOCAL", 10, Words.check(1, two + "INT 0; RETURN"));
        due.is("BACK by them", WRONG, Words.check(1, two + "BACK 1"));
    }

    private static int backByRow() {
        FrameForge x = Words.forge(0, "GOSUB 6; INT 0; RETURN; POP; GOSUB 6; GOTO 1; STORE 7; BACK 7");
        due.is("without the ROW", 5, x.check(0));
        x.row(0, 7, 8, 3, 4);
        return x.check(0);
    }

    private static int withRow(int from, int to) {
        FrameForge x = Words.forge(0, "GOTO 3; NOP; NOP; INT 0; RETURN; THROW");
        x.row(0, from, to, 5, 6);
        return x.check(0);
    }

    private static void rowsThatHaveThePlace() {
        due.of("and to at of each ROW that has this PLACE");
        int[][] spans = {{0, 1, 4}, {1, 2, 3}, {1, 3, 3}, {1, 4, 4}, {3, 4, 4}, {2, 3, 3}, {4, 5, 4}, {5, 6, 3}, {5, 60, 3}, {4, 60, 4}, {59, 60, 3}};
        for (int[] span : spans) {
            due.is("from " + span[0] + " to " + span[1], span[2], withRow(span[0], span[1]));
        }
        FrameForge each = Words.forge(0, "INT 0; RETURN; THROW; THROW; THROW");
        each.row(0, 0, 1, 2, 1);
        due.is("one ROW", 3, each.check(0));
        each.row(0, 0, 1, 3, 1);
        due.is("a ROW that never HAS anything, behind one of the same type", 4, each.check(0));
        each.row(0, 0, 1, 4, 7);
        due.is("a third one", 5, each.check(0));
    }

    private static void whatARowBrings() {
        due.of("with the LOCALS as before the INSTRUCTION, and an OBJECT on the STACK");
        FrameForge x = Words.forge(0, "INT 1; STORE 0; INT 0; RETURN; THROW");
        x.row(0, 1, 2, 4, 0);
        due.is("LOCAL 0 before STORE 0", NONE, x.kindAt(0, 4, 10));
        FrameForge y = Words.forge(0, "INT 1; STORE 0; INT 0; RETURN; THROW");
        y.row(0, 2, 3, 4, 0);
        due.is("LOCAL 0 behind STORE 0", 0, y.kindAt(0, 4, 10));
        y.row(0, 1, 2, 4, 0);
        due.is("LOCAL 0 by both ways", NONE, y.kindAt(0, 4, 10));
        FrameForge deep = Words.forge(0, "8*INT 1; RETURN; THROW");
        deep.row(0, 8, 9, 9, 0);
        due.is("VALUES on the STACK", 1, deep.kindAt(0, 9, -1));
        due.is("the KIND on it", 1, deep.kindAt(0, 9, 0));
        due.is("above it", NONE, deep.kindAt(0, 9, 1));
        FrameForge gosub = Words.forge(0, "GOSUB 3; INT 0; RETURN; STORE 2; NOP; BACK 2; POP; BACK 2");
        gosub.row(0, 4, 5, 6, 0);
        due.is("a RETURN in a LOCAL", 8, gosub.check(0));
        due.is("its KIND", 13, gosub.kindAt(0, 7, 12));
        FrameForge own = Words.forge(0, "NULL; THROW");
        own.row(0, 1, 2, 1, 0);
        due.is("a ROW to its own PLACE", 2, own.check(0));
        own.row(0, 0, 1, 0, 0);
        due.is("a ROW to a PLACE where the STACK has nothing", WRONG, own.check(0));
    }

    private static void localsByAllWays() {
        due.of("Where several ways come to a PLACE a LOCAL has a KIND only if it has this one by all");
        String[] kinds = {"INT 5; STORE 7", "NULL; STORE 7", "NOP; NOP"};
        int[] numbers = {0, 1, NONE};
        for (int one = 0; one < 3; one++) {
            for (int two = 0; two < 3; two++) {
                FrameForge x = Words.forge(1, "LOAD 0; IF 0 5; " + kinds[one] + "; GOTO 7; " + kinds[two] + "; INT 0; RETURN");
                due.is("ways " + one + " and " + two, one == two ? numbers[one] : NONE, x.kindAt(0, 7, 17));
                due.is("LOCAL 0 by both", 0, x.kindAt(0, 7, 10));
                due.is("they are not WRONG", 9, x.check(0));
                x.change(0, 7, 2, 7, 0);
                x.change(0, 8, 11, 0, 8);
                due.is("LOAD of it", one == two && one < 2 ? 9 : WRONG, x.check(0));
            }
        }
        FrameForge loop = Words.forge(1, "INT 1; STORE 1; NOP; NULL; STORE 1; LOAD 0; IF 1 2; LOAD 0; RETURN");
        due.is("before the loop comes back", NONE, loop.kindAt(0, 2, 11));
        due.is("behind the STORE", 1, loop.kindAt(0, 5, 11));
        loop.change(0, 2, 27, 1, 1);
        due.is("INC of what the loop takes away", WRONG, loop.check(0));
    }

    /** Puts VALUES of these KINDS (i int, o OBJECT, r RETURN) onto the STACK, from below. */
    private static String stack(String kinds) {
        StringBuilder words = new StringBuilder();
        for (int i = 0; i < kinds.length(); i++) {
            char kind = kinds.charAt(i);
            words.append(kind == 'i' ? "INT 0; " : kind == 'o' ? "NULL; " : "GOSUB " + (i + 1) + "; ");
        }
        return words.toString();
    }

    private static void whatEachTakes() {
        due.of("an INSTRUCTION does not have what it takes (of KINDS as said");
        String ints = "- i io oi ir ri oo";
        String[][] cases = {
            {"POP", "i o r", "-"}, {"DUP", "i o r", "-"}, {"STORE 7", "i o r", "-"}, {"SWAP", "ii io ir oi oo or ri ro rr", "- i o r"},
            {"ADD", "ii oii", ints}, {"SUB", "ii oii", ints}, {"MUL", "ii oii", ints}, {"DIV", "ii oii", ints},
            {"GET", "o io", "- i r oi or"}, {"PUT", "oi ioi", "- i o io ii oo ri or"}, {"ENTER", "o io", "- i r oi or"},
            {"LEAVE", "o io", "- i r oi or"}, {"TYPE", "o io", "- i r oi or"}, {"SAY", "i oi", "- o r io ir"},
            {"IF 0 next", "i oi", "- o r io ir"}, {"IFNULL next", "o io", "- i r oi or"},
            {"NOP", "- i o r", ""}, {"GOTO next", "- i o r", ""}, {"INT 1", "- i o r", ""}, {"NULL", "- i o r", ""}, {"NEW 1", "- i o r", ""}};
        for (String[] one : cases) {
            withStacks(one[0] + "; NULL; THROW", one[1], 3);
            withStacks(one[0] + "; NULL; THROW", one[2], WRONG);
        }
        withStacks("RETURN", "i oi ri", 1);
        withStacks("RETURN", "- o r io ir", WRONG);
        withStacks("THROW", "o io ro", 1);
        withStacks("THROW", "- i r oi or", WRONG);
    }

    /** With each of these STACKS ("-" the empty one) check answers WRONG, or so many PLACES more than the STACK takes. */
    private static void withStacks(String words, String stacks, int more) {
        for (String one : stacks.isEmpty() ? new String[0] : stacks.split(" ")) {
            String kinds = one.replace("-", "");
            String code = stack(kinds) + words.replace("next", String.valueOf(kinds.length() + 1));
            due.is(words + " with " + one, more == WRONG ? WRONG : kinds.length() + more, Words.check(0, code));
        }
    }

    private static void whatCallTakes() {
        due.of("CALL takes ints");
        for (int takes = 0; takes <= 3; takes++) {
            for (int there = 0; there <= 4; there++) {
                FrameForge x = Words.forge(0, stack("i".repeat(there)) + "CALL 5; GOTO " + (there + 1));
                x.method(5, takes, false);
                due.is(takes + " ARGUMENTS of " + there, there < takes ? WRONG : there + 2, x.check(0));
                due.is("VALUES then", there < takes ? NONE : there - takes + 1, x.kindAt(0, there + 1, -1));
                due.is("the VALUE is an int", there < takes ? NONE : 0, x.kindAt(0, there + 1, Math.max(0, there - takes)));
            }
            for (int other = 0; other < 4; other++) {
                for (char kind : new char[] {'o', 'r'}) {
                    StringBuilder kinds = new StringBuilder("iiii");
                    kinds.setCharAt(3 - other, kind);
                    FrameForge x = Words.forge(0, stack(kinds.toString()) + "CALL 5; GOTO 5");
                    x.method(5, takes, false);
                    due.is(takes + " ARGUMENTS, " + kinds, other < takes ? WRONG : 6, x.check(0));
                }
            }
        }
    }

    private static void whatLocalsMustHold() {
        due.of("LOAD no RETURN, nor nothing; INC an int; BACK a RETURN");
        String[] holds = {"INT 0; NOP; STORE 7; ", "NULL; NOP; STORE 7; ", "GOSUB 2; NOP; STORE 7; ", "NOP; NOP; NOP; "};
        int[] load = {5, 5, WRONG, WRONG};
        int[] inc = {5, WRONG, WRONG, WRONG};
        for (int i = 0; i < 4; i++) {
            // The NOP at PLACE 1 is not come to if a GOSUB is in front of it.
            due.is("LOAD, " + holds[i], load[i], Words.check(0, holds[i] + "LOAD 7; GOTO 4"));
            due.is("INC, " + holds[i], inc[i], Words.check(0, holds[i] + "INC 7 1; GOTO 4"));
            boolean isReturn = i == 2;
            FrameForge back = Words.forge(0, holds[i] + "BACK 7");
            back.change(0, 1, isReturn ? 11 : 0, 0, 1);
            due.is("BACK, " + holds[i], isReturn ? 4 : WRONG, back.check(0));
        }
        due.is("INC of an ARGUMENT", 3, Words.check(1, "INC 0 1; LOAD 0; RETURN"));
        due.is("BACK of an ARGUMENT", WRONG, Words.check(1, "BACK 0"));
        due.is("LOAD of a RETURN's LOCAL once it holds an int", 5, Words.check(0, "GOSUB 1; STORE 0; INT 2; STORE 0; GOTO 4"));
    }

    private static void ninthValue() {
        due.of("the STACK would have a ninth VALUE");
        String[] gives = {"INT 0", "DUP", "NULL", "NEW 0", "LOAD 0", "CALL 1", "GOSUB "};
        for (String give : gives) {
            for (int there = 7; there <= 8; there++) {
                String words = there + "*INT 0; " + give + (give.equals("GOSUB ") ? there + 1 + "" : "") + "; GOTO " + (there + 1);
                due.is(give + " on " + there, there == 8 ? WRONG : 9, Words.check(1, words));
            }
        }
        String[] same = {"NOP", "SWAP", "ADD", "SAY", "POP", "STORE 7", "INC 0 1", "GOTO 9"};
        for (String one : same) {
            due.is(one + " on 8", 10, Words.check(1, "8*INT 0; " + one + "; GOTO 9"));
        }
        for (int takes = 0; takes <= 1; takes++) {
            FrameForge x = Words.forge(0, "8*INT 0; CALL 1; GOTO 9");
            x.method(1, takes, false);
            due.is("CALL on 8, with " + takes + " ARGUMENTS", takes == 0 ? WRONG : 10, x.check(0));
        }
        due.is("GET on 8", 10, Words.check(0, "8*NULL; GET; GOTO 9"));
    }

    private static void noPlace() {
        due.of("or there is no PLACE where it goes on");
        due.is("behind the last one", WRONG, Words.check(0, "INT 0; POP"));
        due.is("behind PLACE 59", WRONG, Words.check(0, "60*NOP"));
        String[] jumps = {"INT 0; GOTO ", "INT 0; IF 1 ", "NULL; IFNULL ", "INT 0; GOSUB "};
        for (String jump : jumps) {
            // PLACE 3 is the last one.
            boolean drops = !jump.contains("GOTO") && !jump.contains("GOSUB");
            due.is(jump + "3", drops ? 4 : 3, Words.check(0, jump + "3; NOP; GOTO 3"));
            due.is(jump + "4", WRONG, Words.check(0, jump + "4; NOP; GOTO 3"));
            due.is(jump + "59", WRONG, Words.check(0, jump + "59; NOP; GOTO 3"));
        }
        due.is("IF at the end", WRONG, Words.check(0, "INT 0; IF 0 0"));
        due.is("IF NULL at the end", WRONG, Words.check(0, "NULL; IFNULL 0"));
        due.is("CALL at the end", WRONG, Words.check(0, "CALL 1"));
        due.is("RETURN at the end", 2, Words.check(0, "INT 0; RETURN"));
        due.is("THROW at the end", 2, Words.check(0, "NULL; THROW"));
        due.is("GOSUB at the end, and no BACK", 4, Words.check(0, "GOTO 3; INT 0; RETURN; GOSUB 1"));
        due.is("GOSUB at the end, and a BACK behind it", WRONG, Words.check(0, "GOTO 3; STORE 0; BACK 0; GOSUB 1"));
        for (int at = 2; at <= 3; at++) {
            FrameForge x = Words.forge(0, "INT 0; RETURN; THROW");
            x.row(0, 1, 2, at, 0);
            due.is("a ROW with at " + at, at == 2 ? 3 : WRONG, x.check(0));
        }
        FrameForge never = Words.forge(0, "INT 0; RETURN; THROW");
        never.row(0, 2, 60, 59, 0);
        due.is("a ROW that has no PLACE that may be come to", 2, never.check(0));
    }

    private static void stacksThatDiffer() {
        due.of("or STACKS that come together differ in number or KINDS");
        String[] kinds = {"", "i", "o", "ii", "io", "oi", "oo"};
        for (String one : kinds) {
            for (String two : kinds) {
                String words = "LOAD 0; IF 0 5; " + inTwoPlaces(one) + "GOTO 7; " + inTwoPlaces(two) + "GOTO 7";
                due.is("\"" + one + "\" and \"" + two + "\"", one.equals(two) ? 8 : WRONG, Words.check(1, words));
            }
        }
        due.is("RETURNS of one PLACE", 5, Words.check(1, "LOAD 0; IF 0 3; GOSUB 4; GOSUB 4; GOTO 4"));
        due.is("RETURNS of two PLACES", WRONG, Words.check(1, "LOAD 0; IF 0 3; GOSUB 5; GOSUB 4; NOP; GOTO 5"));
        due.is("by BACK, the same", 7, Words.check(0, "INT 0; GOSUB 5; GOSUB 5; INT 0; RETURN; STORE 0; BACK 0"));
        due.is("by GOSUB, another number", WRONG, Words.check(0, "GOSUB 5; INT 0; GOSUB 5; INT 0; RETURN; STORE 0; BACK 0"));
        for (int there = 0; there <= 2; there++) {
            FrameForge x = Words.forge(0, there + "*NULL; GOTO " + (there + 1) + "; GOTO " + (there + 1));
            x.row(0, there, there + 1, there + 1, 0);
            due.is("by a ROW, with " + there, there == 1 ? 3 : WRONG, x.check(0));
        }
        FrameForge kind = Words.forge(0, "INT 0; GOTO 2; GOTO 2");
        kind.row(0, 1, 2, 2, 0);
        due.is("by a ROW, with an int", WRONG, kind.check(0));
    }

    private static String inTwoPlaces(String kinds) {
        return stack(kinds) + "NOP; ".repeat(2 - kinds.length());
    }

    private static void noInstruction() {
        due.of("or it has no INSTRUCTION");
        FrameForge x = new FrameForge();
        due.is("none", WRONG, x.check(0));
        x.add(0, 11, 0, 0);
        due.is("one", 1, x.check(0));
        x.method(0, 3, true);
        due.is("none again", WRONG, x.check(0));
        x.row(0, 0, 60, 0, 0);
        due.is("none, but a ROW", WRONG, x.check(0));
    }

    private static void onlyWhatIsComeTo() {
        due.of("The METHOD is WRONG if, at a PLACE that may be come to");
        String[] wrong = {"POP", "LOAD 5", "INC 5 1", "BACK 5", "GOTO 59", "GOSUB 59", "ADD", "CALL 3", "NOP"};
        for (String one : wrong) {
            due.is(one + " that is not come to", 2, Words.check(0, "INT 0; RETURN; " + one));
        }
        due.is("STACKS that would differ, not come to", 1, Words.check(0, "GOTO 0; INT 0; GOTO 0"));
        FrameForge x = Words.forge(0, "CALL 1; RETURN");
        due.is("a CALL of a METHOD that is WRONG", 2, x.check(0));
        due.is("that METHOD", WRONG, x.check(1));
    }

    private static void check() {
        due.of("how many PLACES of METHOD m may be come to; WRONG; REFUSED if m is not 0 to 5");
        FrameForge x = new FrameForge();
        int[] last = {0, 5};
        for (int m : last) {
            due.is("METHOD " + m + " that is WRONG", WRONG, x.check(m));
            Words.put(x, m, 0, "GOTO 0; NOP");
            due.is("METHOD " + m, 1, x.check(m));
        }
        for (int m : NO_METHODS) {
            due.is("METHOD " + m, REFUSED, x.check(m));
        }
        Words.put(x, 1, 1, "LOAD 0; IF 0 5; POP; INT 0; RETURN; INT 0; RETURN");
        Words.put(x, 2, 0, "GOTO 6; NOP; NOP; NOP; NOP; POP; GOTO 6");
        due.is("one that is WRONG", WRONG, x.check(1));
        due.is("nothing is left over from it", 2, x.check(2));
        x.write(1);
        due.is("of the PROGRAM that is WRITTEN", WRONG, x.check(0));
    }

    private static void kindAtNumbers() {
        due.of("what -1: how many VALUES the STACK has; 0 to 7: the KIND of that one from below, 10 to 17: that of LOCAL what - 10");
        FrameForge x = Words.forge(0, "NULL; STORE 0; INT 0; STORE 7; GOSUB 5; NULL; INT 0; NULL; 3*INT 0; NULL; GOTO 12");
        due.is("VALUES", 8, x.kindAt(0, 12, -1));
        int[] kinds = {15, 1, 0, 1, 0, 0, 0, 1};
        for (int what = 0; what < 8; what++) {
            due.is("VALUE " + what, kinds[what], x.kindAt(0, 12, what));
        }
        due.is("LOCAL 0", 1, x.kindAt(0, 12, 10));
        due.is("LOCAL 7", 0, x.kindAt(0, 12, 17));
        due.of("REFUSED for another m or what");
        int[] whats = {MIN, -2, 8, 9, 18, MAX};
        for (int what : whats) {
            due.is("what " + what, REFUSED, x.kindAt(0, 12, what));
            due.is("what " + what + " of no PLACE", REFUSED, x.kindAt(0, 60, what));
            due.is("what " + what + " of a METHOD that is WRONG", REFUSED, x.kindAt(1, 0, what));
        }
        for (int m : NO_METHODS) {
            due.is("METHOD " + m, REFUSED, x.kindAt(m, 0, -1));
            due.is("METHOD " + m + " of no PLACE", REFUSED, x.kindAt(m, -1, 0));
        }
        due.is("METHOD 5", NONE, x.kindAt(5, 0, -1));
    }

    private static void kindAtNone() {
        due.of("NONE if it has none, the PLACE may not be come to, or the METHOD is WRONG");
        FrameForge x = Words.forge(1, "INT 0; GOTO 3; NOP; RETURN; NOP");
        due.is("VALUE 0 of one", 0, x.kindAt(0, 3, 0));
        due.is("VALUE 1 of one", NONE, x.kindAt(0, 3, 1));
        due.is("VALUE 7 of one", NONE, x.kindAt(0, 3, 7));
        due.is("VALUE 0 of none", NONE, x.kindAt(0, 0, 0));
        due.is("LOCAL 1", NONE, x.kindAt(0, 3, 11));
        due.is("LOCAL 0", 0, x.kindAt(0, 3, 10));
        int[] places = {MIN, -1, 2, 4, 5, 59, 60, MAX};
        for (int p : places) {
            due.is("VALUES at PLACE " + p, NONE, x.kindAt(0, p, -1));
            due.is("LOCAL 0 at PLACE " + p, NONE, x.kindAt(0, p, 10));
        }
        x.change(0, 3, 20, 0, 0);
        due.is("VALUES of a METHOD that is WRONG", NONE, x.kindAt(0, 0, -1));
        due.is("LOCAL 0 of a METHOD that is WRONG", NONE, x.kindAt(0, 0, 10));
        x.change(0, 3, 22, 0, 0);
        due.is("when it is right again", 0, x.kindAt(0, 0, 10));
        FrameForge full = Words.forge(0, "59*NOP; GOTO 59");
        due.is("PLACE 59", 0, full.kindAt(0, 59, -1));
        due.is("PLACE 60", NONE, full.kindAt(0, 60, -1));
        full.check(0);
        due.is("another METHOD, after a check", NONE, full.kindAt(1, 0, -1));
    }
}
