import java.util.ArrayList;
import java.util.List;

/** METHODS as words: "LOAD 0; 2*INT 3; IF 1 7; RETURN", the numbers being those that the op has, a before b. */
final class Words {
    private static final List<String> OPS = List.of(
        "NOP", "INT", "LOAD", "STORE", "POP", "DUP", "SWAP", "ADD", "SUB", "MUL", "DIV", "GOTO", "IF", "NULL",
        "NEW", "GET", "PUT", "IFNULL", "ENTER", "LEAVE", "THROW", "CALL", "RETURN", "GOSUB", "BACK", "SAY", "TYPE", "INC");
    private static final List<String> WITH_B_ALONE = List.of("GOTO", "IFNULL", "GOSUB");

    private Words() {
    }

    static int[][] code(String words) {
        List<int[]> code = new ArrayList<>();
        for (String one : words.split(";")) {
            String text = one.trim();
            int star = text.indexOf('*');
            int times = star < 0 ? 1 : Integer.parseInt(text.substring(0, star));
            for (int i = 0; i < times && !text.isEmpty(); i++) {
                code.add(instruction(text.substring(star + 1)));
            }
        }
        return code.toArray(new int[0][]);
    }

    private static int[] instruction(String text) {
        String[] parts = text.split(" +");
        int op = OPS.indexOf(parts[0]);
        if (op < 0) {
            throw new IllegalArgumentException(text);
        }
        int[] numbers = new int[3];
        numbers[0] = op;
        for (int i = 1; i < parts.length; i++) {
            numbers[WITH_B_ALONE.contains(parts[0]) ? 2 : i] = Integer.parseInt(parts[i]);
        }
        return numbers;
    }

    static FrameForge forge(int arguments, String words) {
        return Due.forge(arguments, code(words));
    }

    static void put(FrameForge forge, int m, int arguments, String words) {
        Due.put(forge, m, arguments, code(words));
    }

    static void putLocked(FrameForge forge, int m, int arguments, String words) {
        Due.put(forge, m, arguments, true, code(words));
    }

    static int check(int arguments, String words) {
        return forge(arguments, words).check(0);
    }

    /** How a run of METHOD 0 with x and y ends: its VALUE, or 1000 less than what run answers. */
    static int value(int x, int y, String words) {
        FrameForge forge = forge(2, words);
        int ended = forge.run(0, 0, 1000, x, y, 0);
        return ended == 0 ? forge.ran(0) : ended - 1000;
    }
}
