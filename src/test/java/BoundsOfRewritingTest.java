import java.util.List;

/** TO REPLACE and PLAIN of "Terms", and promises 14 and 15, sentence by sentence. */
final class BoundsOfRewritingTest {
    private static final int MIN = Integer.MIN_VALUE;
    private static final int MAX = Integer.MAX_VALUE;
    private static final int REFUSED = FrameForge.REFUSED;
    private static final int NONE = FrameForge.NONE;
    private static final int FULL = FrameForge.FULL;
    private static final int WRONG = FrameForge.WRONG;
    private static final int[] NO_METHODS = {MIN, -1, 6, MAX};
    private static final Due due = new Due();

    public static void main(String[] args) {
        placesOfInstructions();
        placesOfRows();
        nothingInItsStead();
        fullOfInstructions();
        fullOfRows();
        plainStore();
        plainBack();
        plainBetween();
        plainPlacesInside();
        plainPlacesOutside();
        plainPlaceAtTheBegin();
        plainRows();
        unfoldPlaces();
        unfoldRows();
        unfoldAnswers();
        inlineStores();
        inlineCode();
        inlineLocals();
        inlineRows();
        inlineCallAndMethod();
        inlineStacks();
        inlineTooManyLocals();
        inlineAnswers();
        inlineFull();
        due.end();
    }

    /** What an answer below 0 must leave as it is. */
    private static int unfold(FrameForge x, int m, int p) {
        List<Integer> before = Due.all(x);
        int answer = x.unfold(m, p);
        due.yes("nothing is done by unfold(" + m + ", " + p + ")", answer >= 0 || before.equals(Due.all(x)));
        return answer;
    }

    private static int inline(FrameForge x, int m, int p) {
        List<Integer> before = Due.all(x);
        int answer = x.inline(m, p);
        due.yes("nothing is done by inline(" + m + ", " + p + ")", answer >= 0 || before.equals(Due.all(x)));
        return answer;
    }

    /** What has each PLACE round PLACE 2 as b. */
    private static String jumps(int one, int two, int three) {
        StringBuilder words = new StringBuilder();
        for (String op : List.of("GOTO ", "IF 2 ", "IFNULL ", "GOSUB ")) {
            words.append(op).append(one).append("; ").append(op).append(two).append("; ").append(op).append(three).append("; ");
        }
        return words.toString();
    }

    private static void placesOfInstructions() {
        due.of("a PLACE above p, as b of 11, 12, 17, 23");
        for (int n = 0; n <= 3; n++) {
            String nops = n + "*NOP; ";
            FrameForge x = Words.forge(0, "2*NOP; GOSUB 17; INT 0; RETURN; " + jumps(1, 2, 3) + "STORE 7; " + nops + "BACK 7");
            due.is("unfold to " + n, 18 + n + n, unfold(x, 0, 2));
            due.code("unfold to " + n, x, 0,
                Words.code("2*NOP; " + nops + "INT 0; RETURN; " + jumps(1, 2, 2 + n) + "STORE 7; " + nops + "BACK 7"));
        }
        for (int n = 1; n <= 3; n++) {
            FrameForge x = Words.forge(0, "2*NOP; CALL 1; RETURN; " + jumps(1, 2, 3));
            String nops = n - 1 + "*NOP; ";
            Words.put(x, 1, 0, nops + "GOTO 0");
            due.is("inline to " + n, 15 + n, inline(x, 0, 2));
            due.code("inline to " + n, x, 0, Words.code("2*NOP; " + nops + "GOTO 2; RETURN; " + jumps(1, 2, 2 + n)));
        }
        FrameForge far = Words.forge(0, "2*NOP; GOSUB 7; INT 0; RETURN; GOTO 59; GOTO 58; STORE 7; 3*NOP; BACK 7");
        due.is("unfold", 14, unfold(far, 0, 2));
        due.is("a b that is no PLACE", 61, far.code(0, 7, 2));
        due.is("another one", 60, far.code(0, 8, 2));
    }

    private static void placesOfRows() {
        due.of("as from, to or at of a ROW, becomes n - 1 more");
        // The CALL is at 2, and 3 INSTRUCTIONS come in its stead; 4 is a THROW.
        int[][] spans = {
            {0, 1, 0, 1}, {0, 2, 0, 2}, {0, 3, 0, 5}, {1, 2, 1, 2}, {2, 3, 2, 5}, {2, 4, 2, 6}, {3, 4, 5, 6}, {0, 60, 0, 62}, {59, 60, 61, 62}};
        for (int[] span : spans) {
            FrameForge x = Words.forge(0, "2*NOP; CALL 1; RETURN; THROW");
            Words.put(x, 1, 0, "NOP; INT 0; RETURN");
            x.row(0, span[0], span[1], 4, 5);
            due.is("inline", 7, inline(x, 0, 2));
            due.rows("ROW " + span[0] + " to " + span[1], x, 0, Due.in(span[2], span[3], 6, 5));
        }
        int[][] ats = {{0, 0}, {1, 1}, {2, 2}, {3, 5}, {4, 6}, {59, 61}};
        for (int[] at : ats) {
            FrameForge x = Words.forge(0, "2*NOP; CALL 1; RETURN; THROW");
            Words.put(x, 1, 0, "NOP; INT 0; RETURN");
            x.row(0, 4, 5, at[0], 5);
            due.is("inline", 7, inline(x, 0, 2));
            due.rows("ROW with at " + at[0], x, 0, Due.in(6, 7, at[1], 5));
            FrameForge y = Words.forge(0, "2*NOP; GOSUB 6; 2*INT 0; RETURN; STORE 7; 3*NOP; BACK 7; NOP");
            y.row(0, 11, 12, at[0], 5);
            due.is("unfold", 14, unfold(y, 0, 2));
            due.rows("ROW with at " + at[0], y, 0, Due.in(13, 14, at[1], 5));
        }
    }

    private static void nothingInItsStead() {
        due.of("PLACE p is the first of them (the next one with n 0)");
        FrameForge x = Words.forge(1, "LOAD 0; IF 0 3; NOP; GOSUB 6; LOAD 0; RETURN; STORE 7; BACK 7");
        x.branch();
        due.is("unfold", 7, unfold(x, 0, 3));
        due.code("unfold", x, 0, Words.code("LOAD 0; IF 0 3; NOP; LOAD 0; RETURN; STORE 7; BACK 7"));
        due.is("the same happens", 0, x.compare(0, 0, 0, 0));
        due.is("the same happens otherwise", 0, x.compare(0, 1, 0, 0));
        FrameForge first = Words.forge(0, "GOSUB 3; INT 4; RETURN; STORE 7; BACK 7");
        due.is("at PLACE 0", 4, unfold(first, 0, 0));
        due.code("at PLACE 0", first, 0, Words.code("INT 4; RETURN; STORE 7; BACK 7"));
        FrameForge full = Words.forge(0, "GOSUB 58; INT 4; RETURN; 55*NOP; STORE 7; BACK 7");
        due.is("with 60", 59, unfold(full, 0, 0));
    }

    private static void fullOfInstructions() {
        due.of("FULL, and nothing is done, if there would be more than 60 INSTRUCTIONS");
        for (int nops = 27; nops <= 30; nops++) {
            FrameForge x = Words.forge(0, "GOSUB 3; INT 4; RETURN; STORE 7; " + nops + "*NOP; BACK 7");
            int then = 4 + nops + nops;
            due.is(then + " INSTRUCTIONS by unfold", then > 60 ? FULL : then, unfold(x, 0, 0));
        }
        FrameForge odd = Words.forge(0, "GOSUB 3; INT 4; RETURN; STORE 7; 28*NOP; BACK 7; NOP");
        due.is("61 INSTRUCTIONS by unfold", FULL, unfold(odd, 0, 0));
        for (int nops = 55; nops <= 58; nops++) {
            FrameForge x = Words.forge(0, "CALL 1; RETURN");
            Words.put(x, 1, 0, nops + "*NOP; INT 0; RETURN");
            due.is(nops + 3 + " INSTRUCTIONS by inline", nops + 3 > 60 ? FULL : nops + 3, inline(x, 0, 0));
        }
        FrameForge one = Words.forge(0, "CALL 1; RETURN; 58*NOP");
        Words.put(one, 1, 0, "GOTO 0");
        due.is("60 in the stead of 60", 60, inline(one, 0, 0));
        FrameForge two = Words.forge(0, "CALL 1; RETURN; 58*NOP");
        Words.put(two, 1, 0, "NOP; GOTO 0");
        due.is("61 in the stead of 60", FULL, inline(two, 0, 0));
    }

    private static void fullOfRows() {
        due.of("or 8 ROWS");
        for (int rows = 4; rows <= 8; rows++) {
            // One ROW becomes three, the others stay one each.
            FrameForge x = Words.forge(0, "NOP; GOSUB 4; INT 4; RETURN; STORE 7; NOP; BACK 7; THROW");
            x.row(0, 0, 7, 7, 0);
            for (int r = 1; r < rows; r++) {
                x.row(0, 0, 1, 7, 1);
            }
            due.is(rows + 2 + " ROWS by unfold", rows + 2 > 8 ? FULL : 8, unfold(x, 0, 1));
            due.is("ROWS then", rows + 2 > 8 ? rows : rows + 2, x.table(0, -1, 1));
        }
        for (int its = 0; its <= 4; its++) {
            FrameForge x = Words.forge(0, "CALL 1; RETURN; THROW");
            for (int r = 0; r < 5; r++) {
                x.row(0, 0, 1, 2, r);
            }
            Words.put(x, 1, 0, "INT 0; RETURN; THROW");
            for (int r = 0; r < its; r++) {
                x.row(1, 0, 1, 2, r);
            }
            due.is(5 + its + " ROWS by inline", its > 3 ? FULL : 5, inline(x, 0, 0));
            due.is("ROWS then", its > 3 ? 5 : 5 + its, x.table(0, -1, 1));
        }
        for (int m = 0; m < 2; m++) {
            FrameForge x = Words.forge(0, "CALL 1; RETURN; THROW");
            Words.put(x, 1, 0, "INT 0; RETURN; THROW");
            for (int r = 0; r < 8; r++) {
                x.row(m, 0, 1, 2, r);
            }
            due.is("8 ROWS of METHOD " + m + " alone", 5, inline(x, 0, 0));
            due.is("ROWS then", 8, x.table(0, -1, 1));
        }
    }

    private static int unfoldOf(String words) {
        return unfold(Words.forge(1, words), 0, 0);
    }

    private static void plainStore() {
        due.of("is PLAIN if there is a STORE r at b");
        due.is("STORE 0", 6, unfoldOf("GOSUB 3; INT 4; RETURN; STORE 0; NOP; BACK 0"));
        due.is("STORE 7", 6, unfoldOf("GOSUB 3; INT 4; RETURN; STORE 7; NOP; BACK 7"));
        due.is("STORE behind b", NONE, unfoldOf("GOSUB 3; INT 4; RETURN; NOP; STORE 7; BACK 7"));
        due.is("DUP at b", NONE, unfoldOf("GOSUB 3; INT 4; RETURN; DUP; STORE 7; POP; BACK 7"));
        due.is("POP at b", NONE, unfoldOf("GOSUB 3; INT 4; RETURN; POP; INT 1; RETURN"));
        FrameForge none = Words.forge(0, "INT 4; RETURN; GOSUB 3");
        due.is("no PLACE at b", NONE, unfold(none, 0, 2));
        FrameForge far = Words.forge(0, "INT 4; RETURN; GOSUB 59");
        due.is("b 59", NONE, unfold(far, 0, 2));
        FrameForge last = Words.forge(0, "GOTO 1; GOTO 1; GOSUB 58; 55*NOP; STORE 7; BACK 7");
        due.is("b 58, e 59", 59, unfold(last, 0, 2));
    }

    private static void plainBack() {
        due.of("the first BACK from b on is BACK r, at e");
        due.is("BACK r", 6, unfoldOf("GOSUB 3; INT 4; RETURN; STORE 7; NOP; BACK 7"));
        due.is("BACK of another LOCAL first, not come to", NONE, unfoldOf("GOSUB 3; INT 4; RETURN; STORE 7; GOTO 6; BACK 6; BACK 7"));
        due.is("BACK r first, then of another LOCAL", 9, unfoldOf("GOSUB 3; INT 4; RETURN; STORE 7; GOTO 6; NOP; BACK 7; BACK 6"));
        due.is("BACK r twice", 9, unfoldOf("GOSUB 3; INT 4; RETURN; STORE 7; GOTO 6; NOP; BACK 7; BACK 7"));
        due.is("no BACK", NONE, unfoldOf("GOSUB 3; INT 4; RETURN; STORE 7; INT 4; RETURN"));
        due.is("no BACK up to PLACE 59", NONE, unfoldOf("GOSUB 3; INT 4; RETURN; STORE 7; 54*NOP; INT 4; RETURN"));
        due.is("BACK in front of b alone", NONE, unfoldOf("GOSUB 4; INT 4; RETURN; BACK 7; STORE 7; INT 4; RETURN"));
        due.is("BACK r just behind b", 5, unfoldOf("GOSUB 4; INT 4; RETURN; NOP; STORE 7; BACK 7"));
        FrameForge old = Words.forge(0, "10*BACK 7");
        Words.put(old, 0, 0, "GOSUB 3; INT 4; RETURN; STORE 7; INT 4; RETURN");
        due.is("a BACK of the METHOD that was there before", NONE, unfold(old, 0, 0));
    }

    private static void plainBetween() {
        due.of("between them there is no GOSUB");
        due.is("a GOSUB just behind b", NONE, unfoldOf("GOSUB 3; INT 4; RETURN; STORE 7; GOSUB 6; BACK 7; STORE 6; BACK 6"));
        due.is("a GOSUB just in front of e, not come to", NONE, unfoldOf("GOSUB 3; INT 4; RETURN; STORE 7; GOTO 6; GOSUB 7; BACK 7"));
        due.is("a GOSUB just behind e", 7, unfoldOf("GOSUB 3; INT 4; RETURN; STORE 7; NOP; BACK 7; GOSUB 3"));
        due.is("a GOSUB just in front of b", 7, unfoldOf("GOSUB 4; INT 4; RETURN; GOSUB 4; STORE 7; NOP; BACK 7"));
        due.of("and no LOAD, STORE, INC of r");
        String[] uses = {"LOAD %; ", "STORE %; ", "INC % 1; "};
        for (String use : uses) {
            for (int local = 6; local <= 7; local++) {
                String one = use.replace("%", String.valueOf(local));
                int inside = local == 7 ? NONE : 10;
                due.is(one + "between", inside, unfoldOf("GOSUB 3; INT 4; RETURN; STORE 7; GOTO 7; " + one + "NOP; BACK 7"));
                due.is(one + "just in front of e", inside, unfoldOf("GOSUB 3; INT 4; RETURN; STORE 7; GOTO 7; NOP; " + one + "BACK 7"));
                due.is(one + "just behind e", 7, unfoldOf("GOSUB 3; INT 4; RETURN; STORE 7; NOP; BACK 7; " + one));
                due.is(one + "just in front of b", 7, unfoldOf("GOSUB 4; INT 4; RETURN; " + one + "STORE 7; NOP; BACK 7"));
            }
        }
    }

    private static void plainPlacesInside() {
        due.of("b of 11, 12, 17 there is above b and not above e");
        // b is 3, e is 7.
        int[] places = {0, 2, 3, 4, 6, 7, 8, 59};
        for (String jump : List.of("GOTO ", "IF 0 ", "IFNULL ")) {
            for (int place : places) {
                String words = "GOSUB 3; INT 4; RETURN; STORE 7; GOTO 7; " + jump + place + "; NOP; BACK 7; NOP";
                due.is(jump + place, place > 3 && place <= 7 ? 11 : NONE, unfoldOf(words));
            }
        }
    }

    private static void plainPlacesOutside() {
        due.of("no other 11, 12, 17 has a PLACE from b to e");
        int[] places = {0, 2, 3, 4, 6, 7, 8, 59};
        for (String jump : List.of("GOTO ", "IF 0 ", "IFNULL ", "GOSUB ")) {
            for (int place : places) {
                boolean into = place >= 3 && place <= 7 && !jump.equals("GOSUB ");
                String body = "STORE 7; 3*NOP; BACK 7; ";
                due.is(jump + place + " behind e", into ? NONE : 11, unfoldOf("GOSUB 3; INT 4; RETURN; " + body + jump + place));
                FrameForge front = Words.forge(0, "INT 4; RETURN; " + jump + place + "; " + body + "GOSUB 3");
                due.is(jump + place + " in front of b", into ? NONE : 11, unfold(front, 0, 8));
            }
        }
    }

    private static void plainPlaceAtTheBegin() {
        int[] places = {4, 5, 6, 8};
        for (int place : places) {
            // b is 3, e is 6; from PLACES 4 and 5 it goes on at 5 for ever.
            FrameForge x = Words.forge(0, "GOTO " + place + "; GOSUB 3; NOP; STORE 7; GOTO 5; GOTO 5; BACK 7; NOP; GOTO 8");
            due.is("GOTO " + place + " at PLACE 0", place == 8 ? 10 : place == 6 ? WRONG : NONE, unfold(x, 0, 1));
        }
    }

    private static void plainRows() {
        due.of("and no ROW has its at there");
        int[] ats = {0, 2, 3, 4, 6, 7, 8, 59};
        for (int at : ats) {
            FrameForge x = Words.forge(0, "GOSUB 3; INT 4; RETURN; STORE 7; 3*NOP; BACK 7; NOP");
            x.row(0, 8, 9, at, 0);
            due.is("at " + at, at >= 3 && at <= 7 ? NONE : 11, unfold(x, 0, 0));
        }
        FrameForge x = Words.forge(0, "GOSUB 3; INT 4; RETURN; STORE 7; 3*NOP; BACK 7; THROW");
        x.row(0, 3, 8, 8, 0);
        due.is("from and to there", 11, unfold(x, 0, 0));
    }

    private static void unfoldPlaces() {
        due.of("PLACES in it from b + 1 to e become such from p on (e the one behind)");
        String body = "INC 0 -1; LOAD 0; IF 1 %; NULL; IFNULL #; GOTO %; ";
        FrameForge behind = Words.forge(1, "NOP; GOSUB 4; LOAD 0; RETURN; STORE 7; " + body.replace("%", "5").replace("#", "11") + "BACK 7");
        behind.branch();
        due.is("a subroutine behind p", 17, unfold(behind, 0, 1));
        due.code("a subroutine behind p", behind, 0, Words.code("NOP; " + body.replace("%", "1").replace("#", "7") + "LOAD 0; RETURN; STORE 7; "
            + body.replace("%", "10").replace("#", "16") + "BACK 7"));
        due.is("the same happens", 0, behind.compare(0, 3, 0, 0));
        FrameForge front = Words.forge(1, "GOTO 9; STORE 7; " + body.replace("%", "2").replace("#", "8") + "BACK 7; GOSUB 1; LOAD 0; RETURN");
        front.branch();
        due.is("a subroutine in front of p", 17, unfold(front, 0, 9));
        due.code("a subroutine in front of p", front, 0, Words.code("GOTO 9; STORE 7; " + body.replace("%", "2").replace("#", "8") + "BACK 7; "
            + body.replace("%", "9").replace("#", "15") + "LOAD 0; RETURN"));
        due.is("the same happens", 0, front.compare(0, 3, 0, 0));
        due.of("and p is not from b to e");
        FrameForge inside = Words.forge(0, "GOTO 2; GOTO 1; GOSUB 3; STORE 7; BACK 7");
        due.is("p just in front of b, whose BACK comes to b", WRONG, unfold(inside, 0, 2));
        inside = Words.forge(0, "GOTO 1; GOSUB 3; GOTO 2; STORE 7; NOP; BACK 7; GOSUB 3");
        due.is("p just behind e", 7, unfold(inside, 0, 6));
        inside = Words.forge(0, "INT 0; RETURN; STORE 7; GOSUB 2; BACK 7");
        due.is("p between b and e", NONE, unfold(inside, 0, 3));
    }

    private static void unfoldRows() {
        due.of("each one, in order, becomes up to three");
        // The GOSUB is at 3, the subroutine from 6 to 10, the copy from 3 to 5; 11 is a THROW.
        int[][][] behind = {
            {{0, 1}, {0, 1}}, {{0, 3}, {0, 3}}, {{0, 4}, {0, 3}}, {{2, 3}, {2, 3}}, {{2, 4}, {2, 3}}, {{3, 4}}, {{3, 5}, {6, 7}}, {{4, 5}, {6, 7}},
            {{2, 5}, {2, 3}, {6, 7}}, {{4, 7}, {6, 9}}, {{4, 8}, {3, 4}, {6, 10}}, {{6, 7}, {8, 9}}, {{7, 8}, {3, 4}, {9, 10}},
            {{9, 10}, {5, 6}, {11, 12}}, {{7, 10}, {3, 6}, {9, 12}}, {{10, 11}, {12, 13}}, {{9, 11}, {5, 6}, {11, 13}},
            {{0, 12}, {0, 3}, {3, 6}, {6, 14}}, {{3, 8}, {3, 4}, {6, 10}}, {{11, 12}, {13, 14}},
            {{0, 60}, {0, 3}, {3, 6}, {6, 62}}, {{59, 60}, {61, 62}}};
        for (int[][] one : behind) {
            FrameForge x = Words.forge(0, "3*NOP; GOSUB 6; INT 0; RETURN; STORE 7; 3*NOP; BACK 7; THROW");
            x.row(0, one[0][0], one[0][1], 11, 4);
            due.is("unfold", 14, unfold(x, 0, 3));
            due.rows("ROW " + one[0][0] + " to " + one[0][1], x, 0, wanted(one, 13));
        }
        unfoldRowsInFront();
        unfoldRowsOfP();
        unfoldRowsWithoutAPlace();
        unfoldRowsDoTheSame();
    }

    private static void unfoldRowsInFront() {
        due.of("for what it has of those between b and e, as they are in the copy");
        // The subroutine is from 1 to 5, the GOSUB at 6, the copy from 6 to 8; 9 is a THROW.
        int[][][] front = {
            {{0, 1}, {0, 1}}, {{1, 2}, {1, 2}}, {{2, 3}, {2, 3}, {6, 7}}, {{4, 5}, {4, 5}, {8, 9}}, {{5, 6}, {5, 6}}, {{6, 7}}, {{7, 8}, {9, 10}},
            {{5, 7}, {5, 6}}, {{6, 8}, {9, 10}}, {{5, 8}, {5, 6}, {9, 10}}, {{0, 9}, {0, 6}, {6, 9}, {9, 11}}, {{3, 7}, {3, 6}, {7, 9}},
            {{0, 60}, {0, 6}, {6, 9}, {9, 62}}};
        for (int[][] one : front) {
            FrameForge x = Words.forge(0, "GOTO 6; STORE 7; 3*NOP; BACK 7; GOSUB 1; INT 0; RETURN; THROW");
            x.row(0, one[0][0], one[0][1], 9, 4);
            due.is("unfold", 12, unfold(x, 0, 6));
            due.rows("ROW " + one[0][0] + " to " + one[0][1] + " in front", x, 0, wanted(one, 11));
        }
    }

    private static void unfoldRowsOfP() {
        due.of("for those above p (not for the copy, if it had p");
        FrameForge had = Words.forge(1, "NOP; GOSUB 4; LOAD 0; RETURN; STORE 7; INT 6; LOAD 0; DIV; SAY; BACK 7; TYPE; RETURN");
        had.row(0, 0, 4, 10, 1);
        had.branch();
        due.is("unfold", 15, unfold(had, 0, 1));
        due.rows("a ROW of p and of no PLACE of the subroutine", had, 0, Due.in(0, 1, 13, 1), Due.in(5, 7, 13, 1));
        due.is("what is THROWN in the copy is not HAD by it", 0, had.compare(0, 0, 0, 0));
        due.is("it ends by what is THROWN", 17, had.run(1, 0, 99, 0, 0, 0));
    }

    private static void unfoldRowsWithoutAPlace() {
        due.of("those without a PLACE are none");
        FrameForge none = Words.forge(0, "NOP; GOSUB 4; INT 0; RETURN; STORE 7; BACK 7; THROW");
        none.row(0, 1, 2, 6, 1);
        none.row(0, 4, 6, 6, 2);
        none.row(0, 1, 3, 6, 3);
        none.row(0, 0, 2, 6, 4);
        due.is("unfold to nothing", 6, unfold(none, 0, 1));
        due.rows("unfold to nothing", none, 0, Due.in(3, 5, 5, 2), Due.in(1, 2, 5, 3), Due.in(0, 1, 5, 4));
    }

    private static int[][] wanted(int[][] parts, int at) {
        int[][] rows = new int[parts.length - 1][];
        for (int i = 1; i < parts.length; i++) {
            rows[i - 1] = Due.in(parts[i][0], parts[i][1], at, 4);
        }
        return rows;
    }

    private static void unfoldRowsDoTheSame() {
        for (int from = 0; from < 11; from++) {
            for (int to = from + 1; to <= 11; to++) {
                FrameForge x = Words.forge(1, "2*NOP; GOSUB 6; NOP; INT 0; RETURN; STORE 7; INT 6; LOAD 0; DIV; SAY; BACK 7; TYPE; RETURN");
                x.row(0, from, to, 12, 1);
                x.branch();
                due.is("unfold", 17, unfold(x, 0, 2));
                for (int y = 0; y < 2; y++) {
                    due.is("the same happens, ROW " + from + " to " + to + ", " + y, 0, x.compare(0, y, 0, 0));
                }
            }
        }
    }

    private static void unfoldAnswers() {
        due.of("REFUSED if m is not 0 to 5; WRONG; NONE if there is no GOSUB at p, or it can not be done; FULL");
        FrameForge x = new FrameForge();
        for (int m : NO_METHODS) {
            due.is("METHOD " + m, REFUSED, x.unfold(m, 0));
        }
        String plain = "GOSUB 3; INT 4; RETURN; STORE 7; NOP; BACK 7";
        int[] last = {0, 5};
        for (int m : last) {
            due.is("METHOD " + m + " that is WRONG", WRONG, unfold(x, m, 0));
            due.is("WRONG before NONE", WRONG, unfold(x, m, -1));
            Words.put(x, m, 0, plain);
            due.is("METHOD " + m, 6, unfold(x, m, 0));
        }
        int[] places = {MIN, -1, 1, 3, 5, 6, 60, MAX};
        for (int p : places) {
            due.is("PLACE " + p, NONE, unfold(Words.forge(0, plain), 0, p));
        }
        for (int op = 0; op < 28; op++) {
            FrameForge y = Words.forge(0, "INT 4; RETURN; NOP; STORE 7; NOP; BACK 7");
            y.change(0, 2, op, 0, op == 23 ? 3 : 0);
            due.is("op " + op + " at p", op == 23 ? 6 : NONE, unfold(y, 0, 2));
        }
        due.is("NONE before FULL", NONE, unfoldOf("GOSUB 3; INT 4; RETURN; STORE 7; GOTO 34; 28*NOP; LOAD 7; BACK 7"));
        due.is("a WRONG METHOD that is CALLED does not matter", 7, unfoldOf("GOSUB 3; INT 4; RETURN; STORE 7; NOP; BACK 7; CALL 3"));
        FrameForge other = Words.forge(0, plain);
        other.write(1);
        due.is("of the PROGRAM that is WRITTEN", WRONG, unfold(other, 0, 0));
        FrameForge facts = new FrameForge();
        Words.putLocked(facts, 0, 2, plain);
        due.is("a LOCKED METHOD", 6, unfold(facts, 0, 0));
        due.is("it is LOCKED still", 1, facts.table(0, -1, 3));
        due.is("and takes its ARGUMENTS", 2, facts.table(0, -1, 2));
    }

    private static void inlineStores() {
        due.of("STORES of its ARGUMENTS, the last one first, into LOCALS from f on (the last one into the greatest)");
        String[] stores = {"", "STORE 2; ", "STORE 3; STORE 2; ", "STORE 4; STORE 3; STORE 2; "};
        for (int takes = 0; takes <= 3; takes++) {
            String ints = "INT 5; INT 6; INT 7; ".substring(0, 7 * takes);
            FrameForge x = Words.forge(2, ints + "CALL 5; RETURN");
            Words.put(x, 5, takes, "INT 1; RETURN");
            due.is(takes + " ARGUMENTS", 3 + 2 * takes, inline(x, 0, takes));
            due.code(takes + " ARGUMENTS", x, 0, Words.code(ints + stores[takes] + "INT 1; GOTO " + (2 * takes + 2) + "; RETURN"));
        }
    }

    private static void inlineCode() {
        due.of("then the CODE of METHOD c, with f added to a of 2, 3, 27, PLACES so that they are the same INSTRUCTIONS, and RETURN as GOTO of the PLACE behind");
        FrameForge x = Words.forge(1, "INT 3; CALL 1; RETURN; GOTO 2");
        Words.put(x, 1, 1, "LOAD 0; STORE 0; INC 0 -9; INT 2; IF 2 0; NEW 2; IFNULL 7; GOTO 8; CALL 2; RETURN; RETURN; NOP; DIV; SAY; THROW");
        Words.put(x, 2, 0, "INT 2; RETURN");
        due.is("inline", 19, inline(x, 0, 1));
        due.code("inline", x, 0, Words.code("INT 3; STORE 1; LOAD 1; STORE 1; INC 1 -9; INT 2; IF 2 2; NEW 2; IFNULL 9; GOTO 10; CALL 2; "
            + "GOTO 17; GOTO 17; NOP; DIV; SAY; THROW; RETURN; GOTO 17"));
        due.is("c is as it was", 15, x.table(1, -1, 0));
        due.is("its RETURN too", 22, x.code(1, 9, 0));
    }

    private static void inlineLocals() {
        due.of("f is 1 more than the greatest LOCAL of 2, 3, 24, 27 in METHOD m, and its ARGUMENTS");
        for (int takes = 0; takes <= 3; takes++) {
            for (int local = 0; local <= 6; local++) {
                for (String use : List.of("LOAD ", "STORE ", "BACK ", "INC ")) {
                    FrameForge x = Words.forge(takes, "INT 3; CALL 1; RETURN; " + use + local);
                    Words.put(x, 1, 1, "LOAD 0; RETURN");
                    due.is("inline", 6, inline(x, 0, 1));
                    due.is("f with " + takes + " ARGUMENTS and " + use + local, Math.max(takes, local + 1), x.code(0, 1, 1));
                }
            }
            for (String use : List.of("NOP", "INT 7", "NEW 7", "CALL 5", "IF 2 7", "GOTO 7")) {
                FrameForge x = Words.forge(takes, "INT 3; CALL 1; RETURN; " + use);
                Words.put(x, 1, 1, "LOAD 0; RETURN");
                due.is("inline", 6, inline(x, 0, 1));
                due.is("f with " + takes + " ARGUMENTS and " + use, takes, x.code(0, 1, 1));
            }
        }
    }

    private static void inlineRows() {
        due.of("those of c, so moved (to being no more than the end of its CODE; one without a PLACE of it is none), then those of m");
        // METHOD c has PLACES 0 to 3, which come to be 2 to 5.
        int[][] spans = {
            {0, 1, 2, 3}, {0, 3, 2, 5}, {0, 4, 2, 6}, {0, 5, 2, 6}, {0, 60, 2, 6}, {3, 4, 5, 6}, {3, 5, 5, 6}, {3, 60, 5, 6},
            {4, 5}, {4, 60}, {59, 60}};
        for (int[] span : spans) {
            FrameForge x = Words.forge(0, "INT 3; CALL 1; RETURN; THROW");
            x.row(0, 1, 2, 3, 7);
            Words.put(x, 1, 1, "NOP; LOAD 0; RETURN; THROW");
            x.row(1, span[0], span[1], 3, 6);
            due.is("inline", 8, inline(x, 0, 1));
            String what = "ROW " + span[0] + " to " + span[1];
            if (span.length == 2) {
                due.rows(what, x, 0, Due.in(1, 6, 7, 7));
            } else {
                due.rows(what, x, 0, Due.in(span[2], span[3], 5, 6), Due.in(1, 6, 7, 7));
            }
        }
        FrameForge several = Words.forge(0, "CALL 1; RETURN; THROW");
        Words.put(several, 1, 0, "INT 1; RETURN; THROW; THROW");
        for (int r = 0; r < 4; r++) {
            several.row(0, 0, 1, 2, r);
            several.row(1, 0, 1, 2 + r % 2, 7 - r);
        }
        due.is("inline", 6, inline(several, 0, 0));
        due.rows("in their order", several, 0, Due.in(0, 1, 2, 7), Due.in(0, 1, 3, 6), Due.in(0, 1, 2, 5), Due.in(0, 1, 3, 4),
            Due.in(0, 4, 5, 0), Due.in(0, 4, 5, 1), Due.in(0, 4, 5, 2), Due.in(0, 4, 5, 3));
        inlineRowsDoTheSame();
    }

    private static void inlineRowsDoTheSame() {
        for (int mine = 0; mine < 8; mine++) {
            for (int its = 0; its < 8; its++) {
                FrameForge x = Words.forge(1, "LOAD 0; CALL 1; RETURN; TYPE; INT 100; ADD; RETURN");
                x.row(0, 1, 2, 3, mine);
                Words.put(x, 1, 1, "INT 6; LOAD 0; DIV; RETURN; TYPE; RETURN");
                x.row(1, 2, 3, 4, its);
                x.branch();
                due.is("inline", 13, inline(x, 0, 1));
                due.is("the same happens, types " + mine + " and " + its, 0, x.compare(0, 0, 0, 0));
                due.is("and where nothing is THROWN", 0, x.compare(0, 2, 0, 0));
            }
        }
    }

    private static FrameForge calling(boolean locked, String words) {
        FrameForge x = Words.forge(0, "INT 3; CALL 1; RETURN");
        Due.put(x, 1, 1, locked, Words.code(words));
        return x;
    }

    private static void inlineCallAndMethod() {
        due.of("NONE if there is no CALL at p");
        int[] places = {MIN, -1, 0, 2, 3, 60, MAX};
        for (int p : places) {
            due.is("PLACE " + p, NONE, inline(calling(false, "LOAD 0; RETURN"), 0, p));
        }
        due.is("a CALL", 5, inline(calling(false, "LOAD 0; RETURN"), 0, 1));
        due.of("it may not be come to");
        FrameForge dead = Words.forge(0, "GOTO 2; CALL 1; GOTO 2");
        Words.put(dead, 1, 0, "INT 1; RETURN");
        due.is("a CALL that may not be come to", NONE, inline(dead, 0, 1));
        dead.change(0, 0, 11, 0, 1);
        dead.change(0, 2, 22, 0, 0);
        due.is("a CALL that may be come to", 4, inline(dead, 0, 1));
        due.of("c is m, LOCKED");
        FrameForge itself = Words.forge(0, "CALL 0; RETURN");
        due.is("c is m", NONE, inline(itself, 0, 0));
        itself.change(0, 0, 21, 5, 0);
        Words.put(itself, 5, 0, "CALL 0; RETURN");
        due.is("c CALLS m", 3, inline(itself, 0, 0));
        due.is("c is m then", NONE, inline(itself, 0, 0));
        due.is("LOCKED", NONE, inline(calling(true, "LOAD 0; RETURN"), 0, 1));
        FrameForge mine = new FrameForge();
        Words.putLocked(mine, 0, 0, "CALL 1; RETURN");
        Words.put(mine, 1, 0, "INT 1; RETURN");
        due.is("m is LOCKED", 3, inline(mine, 0, 0));
        due.of("or has 18, 19, 23 or 24");
        for (int op = 0; op < 28; op++) {
            FrameForge x = calling(false, "LOAD 0; RETURN");
            x.add(1, op, 0, 0);
            boolean has = op == 18 || op == 19 || op == 23 || op == 24;
            due.is("op " + op + " that is not come to", has ? NONE : 6, inline(x, 0, 1));
        }
        due.is("ENTER and LEAVE", NONE, inline(calling(false, "NEW 0; DUP; ENTER; LEAVE; LOAD 0; RETURN"), 0, 1));
        due.is("GOSUB at PLACE 0 alone", NONE, inline(calling(false, "GOSUB 1; POP; LOAD 0; RETURN"), 0, 1));
        due.is("GOSUB and BACK", NONE, inline(calling(false, "GOSUB 3; LOAD 0; RETURN; STORE 1; BACK 1"), 0, 1));
    }

    private static void inlineStacks() {
        due.of("the STACK at p has not just the ARGUMENTS");
        for (int takes = 0; takes <= 3; takes++) {
            for (int there = takes; there <= 5; there++) {
                FrameForge x = Words.forge(0, there + "*INT 3; CALL 1; RETURN");
                Words.put(x, 1, takes, "INT 1; RETURN");
                due.is(takes + " of " + there, there == takes ? 2 * takes + 3 : NONE, inline(x, 0, there));
            }
        }
        due.of("or at some RETURN that may be come to more than x");
        due.is("x alone", 5, inline(calling(false, "LOAD 0; RETURN"), 0, 1));
        due.is("one more", NONE, inline(calling(false, "LOAD 0; LOAD 0; RETURN"), 0, 1));
        due.is("seven more", NONE, inline(calling(false, "7*NULL; LOAD 0; RETURN"), 0, 1));
        due.is("one more at the second RETURN", NONE, inline(calling(false, "LOAD 0; IF 0 4; INT 1; RETURN; NULL; INT 1; RETURN"), 0, 1));
        due.is("one more at the first RETURN", NONE, inline(calling(false, "LOAD 0; IF 0 5; NULL; INT 1; RETURN; INT 1; RETURN"), 0, 1));
        due.is("x alone at both", 9, inline(calling(false, "LOAD 0; IF 0 4; INT 1; RETURN; INT 2; RETURN"), 0, 1));
        due.is("more at a THROW", 6, inline(calling(false, "NULL; NULL; THROW"), 0, 1));
        due.is("a RETURN that may not be come to", 7, inline(calling(false, "INT 1; RETURN; NULL; RETURN"), 0, 1));
    }

    private static void inlineTooManyLocals() {
        due.of("or f and the greatest LOCAL of c (of 2, 3, 27, and its ARGUMENTS) is above 7");
        for (int f = 0; f <= 8; f++) {
            String mine = "CALL 1; RETURN; " + (f == 0 ? "NOP" : "STORE " + (f - 1));
            for (int local = 0; local <= 7; local++) {
                for (String use : List.of("LOAD ", "STORE ", "INC ")) {
                    FrameForge x = Words.forge(0, mine);
                    Words.put(x, 1, 0, "INT 1; RETURN; " + use + local);
                    due.is("f " + f + ", " + use + local, f + local > 7 ? NONE : 5, inline(x, 0, 0));
                }
            }
            for (int takes = 1; takes <= 3; takes++) {
                FrameForge x = Words.forge(0, takes + "*INT 1; " + mine);
                Words.put(x, 1, takes, "INT 1; RETURN; NEW 7; INT 7; IF 2 7; CALL 5");
                due.is("f " + f + ", ARGUMENTS " + takes, f + takes - 1 > 7 ? NONE : 8 + 2 * takes, inline(x, 0, takes));
            }
            FrameForge none = Words.forge(0, mine);
            Words.put(none, 1, 0, "INT 1; RETURN");
            due.is("f " + f + ", and c has no LOCAL", 4, inline(none, 0, 0));
        }
    }

    private static void inlineAnswers() {
        due.of("REFUSED if m is not 0 to 5; then WRONG if m is so; NONE without a CALL; WRONG if c is so; the other NONES; FULL");
        FrameForge x = new FrameForge();
        for (int m : NO_METHODS) {
            due.is("METHOD " + m, REFUSED, x.inline(m, 0));
        }
        int[] last = {0, 5};
        for (int m : last) {
            due.is("METHOD " + m + " that is WRONG", WRONG, inline(x, m, 0));
            due.is("WRONG before NONE without a CALL", WRONG, inline(x, m, -1));
            Words.put(x, m, 0, "CALL 1; RETURN");
            due.is("NONE without a CALL, before WRONG of c", NONE, inline(x, m, 1));
            due.is("WRONG of c", WRONG, inline(x, m, 0));
            x.method(1, 0, true);
            due.is("WRONG of c, before NONE as it is LOCKED", WRONG, inline(x, m, 0));
            Words.putLocked(x, 1, 0, "58*NOP; INT 1; RETURN");
            due.is("NONE as it is LOCKED, before FULL", NONE, inline(x, m, 0));
            Words.put(x, 1, 0, "58*NOP; INT 1; RETURN");
            due.is("FULL", FULL, inline(x, m, 0));
            Words.put(x, 1, 0, "57*NOP; INT 1; RETURN");
            due.is("not FULL", 60, inline(x, m, 0));
            x.method(1, 0, false);
        }
        FrameForge dead = Words.forge(0, "INT 1; RETURN; CALL 1");
        due.is("WRONG of c, before NONE as the CALL may not be come to", WRONG, inline(dead, 0, 2));
        FrameForge deep = Words.forge(0, "INT 1; CALL 1; RETURN");
        due.is("WRONG of c, before NONE by the STACK", WRONG, inline(deep, 0, 1));
        FrameForge chain = Words.forge(0, "CALL 1; RETURN");
        Words.put(chain, 1, 0, "CALL 2; RETURN");
        due.is("one that c CALLS may be WRONG", 3, inline(chain, 0, 0));
        FrameForge other = calling(false, "LOAD 0; RETURN");
        other.branch();
        other.method(1, 1, false);
        due.is("c of the PROGRAM that is WRITTEN", WRONG, inline(other, 0, 1));
        other.write(0);
        due.is("c of PROGRAM 0", 5, inline(other, 0, 1));
    }

    private static void inlineFull() {
        due.of("How many INSTRUCTIONS it has then");
        for (int takes = 0; takes <= 3; takes++) {
            for (int more = 0; more <= 2; more++) {
                // So many INSTRUCTIONS in m that there are 59, 60, 61 then.
                int size = 30 - takes + more;
                FrameForge x = Words.forge(0, takes + "*INT 1; CALL 1; RETURN; " + (size - takes - 2) + "*NOP");
                Words.put(x, 1, takes, "28*NOP; INT 1; RETURN");
                due.is(takes + " ARGUMENTS, " + more + " more", more == 2 ? FULL : 59 + more, inline(x, 0, takes));
            }
        }
    }
}
