import java.util.ArrayList;
import java.util.List;
import java.util.Random;

/** Writes METHODS that are mostly not WRONG, with subroutines, locks, ROWS and CALLS. */
final class Generator {
    private final Random random;
    private final FrameForge forge;
    private List<int[]> code;
    private final List<int[]> gosubs = new ArrayList<>();
    private int ints;
    private int objects;
    private int returns;
    private boolean bare;

    Generator(FrameForge forge, Random random) {
        this.forge = forge;
        this.random = random;
    }

    int below(int bound) {
        return random.nextInt(bound);
    }

    void program(int methods) {
        for (int m = 0; m < methods; m++) {
            forge.method(m, below(3) == 0 ? below(4) : below(2), below(5) == 0);
        }
        for (int m = 0; m < methods; m++) {
            method(m, methods);
        }
    }

    private void method(int m, int methods) {
        code = new ArrayList<>();
        gosubs.clear();
        int arguments = forge.table(m, -1, 2);
        boolean small = below(3) != 0;
        ints = Math.max(1, arguments) + (small ? 0 : below(2));
        objects = small ? 1 : 1 + below(2);
        returns = small && below(2) == 0 ? 0 : 1 + below(Math.min(2, 7 - ints - objects + 1));
        // Now and then a method has neither locks nor subroutines, so that it can be written out.
        bare = returns == 0;
        for (int i = arguments; i < ints; i++) {
            put(1, below(5) - 1, 0);
            put(3, i, 0);
        }
        for (int i = 0; i < objects; i++) {
            put(below(4) == 0 ? 13 : 14, below(8), 0);
            put(3, ints + i, 0);
        }
        int begin = code.size();
        statements(1 + below(small ? 3 : 5), methods);
        put(2, below(ints), 0);
        if (below(8) == 0) {
            put(5, 0, 0);
        }
        put(22, 0, 0);
        int[] subroutines = new int[returns];
        for (int r = 0; r < returns; r++) {
            subroutines[r] = code.size();
            put(3, ints + objects + r, 0);
            int before = gosubs.size();
            statements(below(4), methods);
            if (below(3) != 0) {
                // Most subroutines have no GOSUB of their own.
                while (gosubs.size() > before) {
                    int[] gone = gosubs.remove(gosubs.size() - 1);
                    gone[0] = 0;
                    gone[2] = 0;
                }
            }
            put(24, ints + objects + r, 0);
        }
        int bodies = code.size();
        int rows = below(4);
        int[][] table = new int[rows][];
        for (int i = 0; i < rows; i++) {
            int at = code.size();
            handler(begin, methods);
            int from = below(12) == 0 ? below(begin + 1) : begin + below(Math.max(1, bodies - begin));
            int to = below(8) == 0 ? 60 : from + 1 + below(10);
            table[i] = new int[] {from, to, at, below(3) == 0 ? below(8) : 0};
        }
        for (int[] gosub : gosubs) {
            gosub[2] = returns == 0 ? 0 : subroutines[below(returns)];
        }
        for (int[] one : code) {
            forge.add(m, one[0], one[1], one[2]);
        }
        for (int[] row : table) {
            forge.row(m, row[0], Math.min(row[1], 60), row[2], row[3]);
        }
    }

    private void handler(int begin, int methods) {
        int sort = below(4);
        if (sort == 0) {
            put(26, 0, 0);
            put(25, 0, 0);
        } else if (sort == 1) {
            put(3, ints, 0);
        } else if (sort == 2) {
            put(4, 0, 0);
        } else {
            put(26, 0, 0);
            put(22, 0, 0);
            return;
        }
        statements(below(2), methods);
        if (below(6) == 0) {
            put(11, 0, begin);
        } else if (below(4) == 0) {
            put(2, ints, 0);
            put(20, 0, 0);
        } else {
            put(2, 0, 0);
            put(22, 0, 0);
        }
    }

    private int[] put(int op, int a, int b) {
        int[] one = {op, a, b};
        code.add(one);
        return one;
    }

    private void statements(int count, int methods) {
        for (int i = 0; i < count; i++) {
            statement(methods, 0);
        }
    }

    private int anInt() {
        return below(ints);
    }

    private int anObject() {
        return ints + below(objects);
    }

    private void statement(int methods, int depth) {
        int sort = below(20);
        if (bare && (sort == 4 || sort == 5 || sort == 12)) {
            sort = 11;
        }
        switch (sort) {
            case 0: put(2, anInt(), 0); put(25, 0, 0); break;
            case 1: put(27, anInt(), below(5) - 2); break;
            case 2: put(2, anInt(), 0); put(2, anInt(), 0); put(7 + below(4), 0, 0); put(3, anInt(), 0); break;
            case 3: put(14, below(8), 0); put(3, anObject(), 0); break;
            case 4: put(2, anObject(), 0); put(18, 0, 0); break;
            case 5: put(2, anObject(), 0); put(19, 0, 0); break;
            case 6: put(2, anObject(), 0); put(15, 0, 0); put(3, anInt(), 0); break;
            case 7: put(2, anObject(), 0); put(2, anInt(), 0); put(16, 0, 0); break;
            case 8: case 9: skip(methods, depth, sort == 9); break;
            case 10:
                int top = code.size();
                put(27, 0, -1);
                put(2, 0, 0);
                put(12, 2, top + 3 + 2);
                put(2, 0, 0);
                put(12, 1, top);
                break;
            case 11: case 18: case 19: callSome(methods); break;
            case 12: case 13:
                if (returns > 0) {
                    gosubs.add(put(23, 0, 0));
                }
                break;
            case 14: put(2, anInt(), 0); put(12, below(3), code.size() + 3); put(2, anObject(), 0); put(20, 0, 0); break;
            case 15: put(2, anObject(), 0); put(26, 0, 0); put(25, 0, 0); break;
            case 16: put(2, anInt(), 0); put(5, 0, 0); put(6, 0, 0); put(4, 0, 0); put(25, 0, 0); break;
            default:
                if (below(3) == 0) {
                    put(13, 0, 0);
                    put(3, anObject(), 0);
                } else if (below(2) == 0) {
                    put(2, anInt(), 0);
                    put(12, below(3), code.size() + 3);
                    put(2, anInt(), 0);
                    put(22, 0, 0);
                } else {
                    put(0, 0, 0);
                }
        }
    }

    private void skip(int methods, int depth, boolean ifNull) {
        put(2, ifNull ? anObject() : anInt(), 0);
        int[] jump = put(ifNull ? 17 : 12, below(3), 0);
        if (depth < 2) {
            statement(methods, depth + 1);
        }
        jump[2] = code.size();
    }

    private void callSome(int methods) {
        int c = below(methods);
        if (below(10) == 0) {
            put(1, 3, 0);
            put(25, 0, 0);
        }
        for (int i = 0; i < forge.table(c, -1, 2); i++) {
            if (below(2) == 0) {
                put(2, anInt(), 0);
            } else {
                put(1, below(7) - 3, 0);
            }
        }
        put(21, c, 0);
        int sort = below(3);
        put(sort == 0 ? 3 : sort == 1 ? 4 : 25, anInt(), 0);
    }

    /** Changes one INSTRUCTION of the PROGRAM that is WRITTEN to any other. */
    void disturb(int methods) {
        int m = below(methods);
        int size = forge.table(m, -1, 0);
        if (size > 0) {
            forge.change(m, below(size), below(28), below(8), below(2) == 0 ? below(size) : below(60));
        }
    }
}
