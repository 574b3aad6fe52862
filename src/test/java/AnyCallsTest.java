import java.util.List;
import java.util.Random;

/** Any calls in any order: none throws, and the same calls give the same answers. */
final class AnyCallsTest {
    private static final Due due = new Due();
    private static final int[] ODD = {Integer.MIN_VALUE, -6, -2, -1, 8, 59, 60, 61, 1000, 1001, Integer.MAX_VALUE};

    public static void main(String[] args) {
        for (int seed = 0; seed < 1500; seed++) {
            long first = calls(seed);
            if (seed % 10 == 0) {
                due.is("seed " + seed + " again", first, calls(seed));
            }
        }
        due.end();
    }

    private static int number(Random random, int bound) {
        return random.nextInt(40) == 0 ? ODD[random.nextInt(ODD.length)] : random.nextInt(bound);
    }

    private static long calls(int seed) {
        FrameForge x = new FrameForge();
        Random random = new Random(seed);
        int methods = 1 + random.nextInt(3);
        long sum = 0;
        for (int i = 0; i < 512; i++) {
            try {
                sum = sum * 31 + call(x, random, methods);
            } catch (RuntimeException thrown) {
                due.is("seed " + seed + " call " + i + " threw " + thrown, 0, 1);
                return 0;
            }
        }
        due.is("seed " + seed, 0, 0);
        return sum;
    }

    /** An op that keeps a METHOD from being WRONG more often than any op would. */
    private static int op(Random random) {
        int[] some = {0, 1, 1, 2, 3, 13, 14, 22, 25, 27, 11, 12, 17, 20, 21, 23, 24};
        return random.nextInt(3) == 0 ? number(random, 28) : some[random.nextInt(some.length)];
    }

    private static long call(FrameForge x, Random random, int methods) {
        int m = number(random, methods);
        int p = number(random, 12);
        switch (random.nextInt(30)) {
            case 0: return x.write(number(random, 2)) ? 1 : 0;
            case 1: return random.nextInt(3) == 0 ? x.branch() : 0;
            case 2: return x.method(m, number(random, 4), random.nextInt(4) == 0) ? 1 : 0;
            case 3: case 4: return x.change(m, p, op(random), number(random, 6), number(random, 12)) ? 1 : 0;
            case 5: return x.row(m, p, p + number(random, 8), number(random, 12), number(random, 8));
            case 6: return x.check(m);
            case 7: return x.kindAt(m, p, number(random, 18));
            case 8: case 9: case 10: return x.run(number(random, 2), m, number(random, 1001), number(random, 9), number(random, 9), 0);
            case 11: return x.ran(number(random, 6));
            case 12: return x.trace(number(random, 20));
            case 13: return x.compare(m, number(random, 9), number(random, 9), 0);
            case 14: case 15: return x.unfold(m, p);
            case 16: case 17: return x.inline(m, p);
            case 18: return x.code(m, p, number(random, 3));
            case 19: return x.table(m, p, number(random, 4));
            case 20: return x.method(m, 0, false) ? ready(x, m, random) : 0;
            default: return x.add(m, op(random), number(random, 6), number(random, 12));
        }
    }

    /** A METHOD that is not WRONG, so that what comes after it has something to do. */
    private static long ready(FrameForge x, int m, Random random) {
        List<int[]> code = List.of(Due.in(23, 0, 6), Due.in(1, 3), Due.in(25), Due.in(21, random.nextInt(3)), Due.in(22), Due.in(20),
            Due.in(3, 1), Due.in(14, 3), Due.in(18), Due.in(13), Due.in(15), Due.in(4), Due.in(24, 1));
        for (int[] one : code) {
            x.add(m, Due.part(one, 0), Due.part(one, 1), Due.part(one, 2));
        }
        return x.row(m, random.nextInt(12), 12 + random.nextInt(30), 5, random.nextInt(4));
    }
}
