import java.util.ArrayList;
import java.util.List;
import java.util.Map;
import java.util.Random;

/** Many PROGRAMS, the same for each run of this test: the class answers as the model does. */
final class RandomProgramsTest {
    private static final Due due = new Due();
    private static final int PROGRAMS = 2000;
    private static int sound;
    private static int wrong;
    private static int returned;
    private static int thrown;
    private static int stopped;
    private static final int[] inlines = new int[5];
    private static final int[] unfolds = new int[5];
    private static int kept;

    public static void main(String[] args) {
        int count = args.length > 0 ? Integer.parseInt(args[0]) : PROGRAMS;
        for (int seed = 0; seed < count; seed++) {
            one(seed);
        }
        System.out.println("METHODS " + sound + " sound, " + wrong + " WRONG; runs " + returned + " RETURNED, " + thrown + " ended by an OBJECT, "
            + stopped + " STOPPED; unfold " + tally(unfolds) + "; inline " + tally(inlines) + "; " + kept + " compared the same after it");
        due.yes("enough of each", sound > count && wrong > count / 10 && returned > count && thrown > count / 10 && stopped > count / 10
            && unfolds[0] > count / 10 && inlines[0] > count / 10 && kept > count / 10);
        due.end();
    }

    private static String tally(int[] numbers) {
        return "done " + numbers[0] + ", NONE " + numbers[2] + ", FULL " + numbers[3] + ", WRONG " + numbers[4];
    }

    private static void one(int seed) {
        FrameForge x = new FrameForge();
        Random random = new Random(seed);
        Generator generator = new Generator(x, random);
        int methods = 1 + generator.below(5);
        generator.program(methods);
        int disturbances = generator.below(3) == 0 ? 1 + generator.below(3) : 0;
        for (int i = 0; i < disturbances; i++) {
            generator.disturb(methods);
        }
        String name = "seed " + seed;
        Model zero = new Model(x);
        checks(name, x, zero, methods);
        runs(name, x, 0, zero, methods, generator);
        x.branch();
        Model one = new Model(x);
        boolean sameSoFar = disturbances == 0;
        for (int i = 0; i < 4; i++) {
            rewrite(name, x, one, methods, generator);
            compare(name, x, zero, one, methods, generator, sameSoFar);
        }
        checks(name, x, one, methods);
        runs(name, x, 1, one, methods, generator);
        x.write(0);
        due.yes(name + " PROGRAM 0 stays", Due.all(x).equals(zero.all()));
    }

    private static void checks(String name, FrameForge x, Model model, int methods) {
        for (int m = 0; m < methods; m++) {
            Map<Integer, String[]> met = model.check(m);
            due.is(name + " check " + m, met == null ? FrameForge.WRONG : met.size(), x.check(m));
            if (met == null) {
                wrong++;
                continue;
            }
            sound++;
            for (int p = 0; p < model.bodies[m].code.size(); p++) {
                for (int what = -1; what < 18; what++) {
                    int want = what == 8 || what == 9 ? FrameForge.REFUSED : Model.kind(met, p, what);
                    int got = x.kindAt(m, p, what);
                    if (got != want) {
                        due.is(name + " kindAt " + m + " " + p + " " + what, want, got);
                    }
                }
            }
        }
    }

    private static void runs(String name, FrameForge x, int p, Model model, int methods, Generator generator) {
        for (int i = 0; i < 4; i++) {
            int m = generator.below(methods);
            int limit = generator.below(2) == 0 ? 1000 : generator.below(60);
            int a = generator.below(7) - 2;
            int b = generator.below(5) - 2;
            int c = generator.below(5) - 2;
            int ended = x.run(p, m, limit, a, b, c);
            String call = name + " run " + p + " " + m + " " + limit + " " + a + " " + b + " " + c;
            if (model.wrongToRun(m)) {
                due.is(call, FrameForge.WRONG, ended);
                continue;
            }
            Model.Run run = model.new Run(m, limit, a, b, c);
            due.is(call, run.ending, ended);
            same(call, x, run);
            if (ended == 0) {
                returned++;
            } else if (ended > 0) {
                thrown++;
            } else {
                stopped++;
            }
        }
    }

    private static void same(String call, FrameForge x, Model.Run run) {
        int[] want = {run.value, run.done, run.made, run.most, run.trace.size(), run.had};
        for (int what = 0; what < 6; what++) {
            due.is(call + " ran " + what, want[what], x.ran(what));
        }
        for (int k = 0; k < 125; k++) {
            int entry = k < run.trace.size() && k < 120 ? run.trace.get(k) : FrameForge.NONE;
            if (x.trace(k) != entry) {
                due.is(call + " trace " + k, entry, x.trace(k));
            }
        }
    }

    private static void rewrite(String name, FrameForge x, Model model, int methods, Generator generator) {
        List<int[]> places = placesOf(x, methods);
        int[] place = places.isEmpty() || generator.below(20) == 0
            ? new int[] {generator.below(methods), generator.below(60)} : places.get(generator.below(places.size()));
        int m = place[0];
        int p = place[1];
        boolean unfold = x.code(m, p, 0) == 23 ? generator.below(10) != 0 : generator.below(10) == 0;
        String call = name + (unfold ? " unfold " : " inline ") + m + " " + p;
        int want = unfold ? model.unfold(m, p) : model.inline(m, p);
        due.is(call, want, unfold ? x.unfold(m, p) : x.inline(m, p));
        List<Integer> now = Due.all(x);
        due.yes(call + " CODE and TABLES", now.equals(model.all()));
        int[] tally = unfold ? unfolds : inlines;
        tally[want > 0 ? 0 : -want]++;
    }

    /** METHOD and PLACE of each CALL and GOSUB, such as CALL another METHOD more than once. */
    private static List<int[]> placesOf(FrameForge x, int methods) {
        List<int[]> places = new ArrayList<>();
        for (int m = 0; m < methods; m++) {
            for (int p = 0; p < x.table(m, -1, 0); p++) {
                int op = x.code(m, p, 0);
                int times = op == 23 ? 1 : op != 21 ? 0 : x.code(m, p, 1) == m ? 1 : 5;
                for (int i = 0; i < times; i++) {
                    places.add(new int[] {m, p});
                }
            }
        }
        return places;
    }

    private static void compare(String name, FrameForge x, Model zero, Model one, int methods, Generator generator, boolean undisturbed) {
        int m = generator.below(methods);
        int a = generator.below(7) - 2;
        int b = generator.below(5) - 2;
        int got = x.compare(m, a, b, 1);
        String call = name + " compare " + m + " " + a + " " + b;
        if (zero.wrongToRun(m) || one.wrongToRun(m)) {
            due.is(call, FrameForge.WRONG, got);
            return;
        }
        Model.Run first = zero.new Run(m, 1000, a, b, 1);
        Model.Run second = one.new Run(m, 1000, a, b, 1);
        due.is(call, compared(first, second), got);
        same(call, x, second);
        // What is written out does the same, but that fewer FRAMES are there to be too many.
        boolean deep = first.trace.contains(65) || second.trace.contains(65);
        if (undisturbed && !deep) {
            due.yes(call + " the same or STOPPED", got == 0 || got == 3);
            kept += got == 0 ? 1 : 0;
        }
    }

    private static int compared(Model.Run first, Model.Run second) {
        if (first.ending == -5 || second.ending == -5) {
            return 3;
        }
        if (first.ending != second.ending || first.value != second.value) {
            return 1;
        }
        List<Integer> one = first.trace.subList(0, Math.min(120, first.trace.size()));
        List<Integer> two = second.trace.subList(0, Math.min(120, second.trace.size()));
        return first.trace.size() == second.trace.size() && one.equals(two) ? 0 : 2;
    }
}
