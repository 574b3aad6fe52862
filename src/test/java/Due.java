import java.util.ArrayList;
import java.util.List;

/** Counts the answers that are not as due, and makes programs of rows of numbers. */
final class Due {
    private int wrong;
    private int asked;
    private String sentence = "";

    /** The sentence of the document that the next answers are of. */
    void of(String words) {
        sentence = "[" + words + "] ";
    }

    void is(String what, long want, long got) {
        asked++;
        if (got != want) {
            wrong++;
            if (wrong <= 40) {
                System.out.println(sentence + what + ": due is " + want + ", answered " + got);
            }
        }
    }

    void yes(String what, boolean got) {
        is(what, 1, got ? 1 : 0);
    }

    void no(String what, boolean got) {
        is(what, 0, got ? 1 : 0);
    }

    void trace(String what, FrameForge forge, int... want) {
        is(what + " entries", want.length, forge.ran(4));
        for (int k = 0; k < want.length; k++) {
            is(what + " entry " + k, want[k], forge.trace(k));
        }
        is(what + " behind the last entry", FrameForge.NONE, forge.trace(want.length));
    }

    void code(String what, FrameForge forge, int m, int[]... want) {
        is(what + " size", want.length, forge.table(m, -1, 0));
        for (int i = 0; i < want.length; i++) {
            for (int part = 0; part < 3; part++) {
                is(what + " code " + i + " part " + part, part(want[i], part), forge.code(m, i, part));
            }
        }
    }

    void rows(String what, FrameForge forge, int m, int[]... want) {
        is(what + " rows", want.length, forge.table(m, -1, 1));
        for (int i = 0; i < want.length; i++) {
            for (int part = 0; part < 4; part++) {
                is(what + " row " + i + " part " + part, want[i][part], forge.table(m, i, part));
            }
        }
    }

    void end() {
        System.out.println(asked + " answers, " + wrong + " not as due");
        if (wrong != 0 || asked == 0) {
            System.exit(1);
        }
    }

    /** An INSTRUCTION (op, a, b), of which what is left out is 0. */
    static int[] in(int... parts) {
        return parts;
    }

    static int part(int[] parts, int i) {
        return i < parts.length ? parts[i] : 0;
    }

    static void put(FrameForge forge, int m, int arguments, int[]... code) {
        put(forge, m, arguments, false, code);
    }

    static void put(FrameForge forge, int m, int arguments, boolean locked, int[]... code) {
        forge.method(m, arguments, locked);
        for (int[] one : code) {
            forge.add(m, part(one, 0), part(one, 1), part(one, 2));
        }
    }

    static FrameForge forge(int arguments, int[]... code) {
        FrameForge forge = new FrameForge();
        put(forge, 0, arguments, code);
        return forge;
    }

    /** All that code and table tell of the PROGRAM that is WRITTEN. */
    static List<Integer> all(FrameForge forge) {
        List<Integer> told = new ArrayList<>();
        for (int m = 0; m < 6; m++) {
            for (int what = 0; what < 4; what++) {
                told.add(forge.table(m, -1, what));
            }
            for (int i = 0; i < forge.table(m, -1, 0); i++) {
                for (int what = 0; what < 3; what++) {
                    told.add(forge.code(m, i, what));
                }
            }
            for (int i = 0; i < forge.table(m, -1, 1); i++) {
                for (int what = 0; what < 4; what++) {
                    told.add(forge.table(m, i, what));
                }
            }
        }
        return told;
    }
}
