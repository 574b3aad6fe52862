import java.util.ArrayDeque;
import java.util.ArrayList;
import java.util.Arrays;
import java.util.Deque;
import java.util.HashMap;
import java.util.HashSet;
import java.util.List;
import java.util.Map;
import java.util.Set;

/**
 * The document once more, in another way than the class: runs by Java's own calls and exceptions on
 * VALUES that know their KIND; a checker that follows every way by itself and lets them meet at the
 * end; and rewriting by INSTRUCTIONS that point at each other.
 */
final class Model {
    static final int[] ABOVE = {-1, 0, 0, 0, 0, 1, 2, 5};
    private static final int PADDING = 700;

    static final class Instruction {
        int op;
        int a;
        int b;
        Instruction target;

        Instruction(int op, int a, int b) {
            this.op = op;
            this.a = a;
            this.b = b;
        }
    }

    static final class Row {
        int from;
        int to;
        int at;
        int type;

        Row(int from, int to, int at, int type) {
            this.from = from;
            this.to = to;
            this.at = at;
            this.type = type;
        }

        boolean has(int p) {
            return from <= p && p < to;
        }
    }

    static final class Body {
        final List<Instruction> code = new ArrayList<>();
        final List<Row> rows = new ArrayList<>();
        int arguments;
        boolean locked;
    }

    final Body[] bodies = new Body[6];

    /** What the PROGRAM that is WRITTEN is, as code and table tell it. */
    Model(FrameForge forge) {
        for (int m = 0; m < 6; m++) {
            bodies[m] = new Body();
            bodies[m].arguments = forge.table(m, -1, 2);
            bodies[m].locked = forge.table(m, -1, 3) == 1;
            for (int i = 0; i < forge.table(m, -1, 0); i++) {
                bodies[m].code.add(new Instruction(forge.code(m, i, 0), forge.code(m, i, 1), forge.code(m, i, 2)));
            }
            for (int i = 0; i < forge.table(m, -1, 1); i++) {
                bodies[m].rows.add(new Row(forge.table(m, i, 0), forge.table(m, i, 1), forge.table(m, i, 2), forge.table(m, i, 3)));
            }
        }
    }

    List<Integer> all() {
        List<Integer> told = new ArrayList<>();
        for (Body body : bodies) {
            told.addAll(List.of(body.code.size(), body.rows.size(), body.arguments, body.locked ? 1 : 0));
            for (Instruction one : body.code) {
                told.addAll(List.of(one.op, one.a, one.b));
            }
            for (Row row : body.rows) {
                told.addAll(List.of(row.from, row.to, row.at, row.type));
            }
        }
        return told;
    }

    // ---- the checker: a way is a text, a letter for each KIND ----

    /** i int, o OBJECT, - nothing, from 'A' on (behind 200) a RETURN of each PLACE. */
    private record Way(int place, String stack, String locals) { }

    static final class Wrong extends Exception {
        private static final long serialVersionUID = 1;
    }

    /** By PLACE that may be come to: its STACK and LOCALS; null if the METHOD is WRONG. */
    Map<Integer, String[]> check(int m) {
        Body body = bodies[m];
        try {
            return meetings(body);
        } catch (Wrong wrong) {
            return null;
        }
    }

    private Map<Integer, String[]> meetings(Body body) throws Wrong {
        char[] begin = "--------".toCharArray();
        Arrays.fill(begin, 0, body.arguments, 'i');
        Set<Way> seen = new HashSet<>();
        Deque<Way> open = new ArrayDeque<>();
        enter(body, new Way(0, "", new String(begin)), seen, open);
        int before = -1;
        while (before != seen.size()) {
            before = seen.size();
            // Each way once more as long as there are new ones: a BACK may have a new GOSUB.
            open.addAll(new ArrayList<>(seen));
            while (!open.isEmpty()) {
                for (Way next : after(body, open.pop(), seen)) {
                    enter(body, next, seen, open);
                }
            }
        }
        Map<Integer, String[]> met = new HashMap<>();
        for (Way way : seen) {
            String[] old = met.get(way.place);
            if (old == null) {
                met.put(way.place, new String[] {way.stack, way.locals});
            } else {
                require(old[0].equals(way.stack));
                old[1] = common(old[1], way.locals);
            }
        }
        for (int p : met.keySet()) {
            requireLocal(body.code.get(p), met.get(p)[1]);
        }
        return met;
    }

    private static void require(boolean good) throws Wrong {
        if (!good) {
            throw new Wrong();
        }
    }

    private static String common(String one, String other) {
        StringBuilder text = new StringBuilder();
        for (int i = 0; i < one.length(); i++) {
            text.append(one.charAt(i) == other.charAt(i) ? one.charAt(i) : '-');
        }
        return text.toString();
    }

    private static void requireLocal(Instruction one, String locals) throws Wrong {
        char kind = locals.charAt(one.a < 0 || one.a > 7 ? 0 : one.a);
        if (one.op == 2) {
            require(kind == 'i' || kind == 'o');
        } else if (one.op == 27) {
            require(kind == 'i');
        } else if (one.op == 24) {
            require(kind >= 200);
        }
    }

    private static void enter(Body body, Way way, Set<Way> seen, Deque<Way> open) throws Wrong {
        require(way.place < body.code.size() && way.stack.length() <= 8);
        if (seen.add(way)) {
            open.push(way);
        }
    }

    private List<Way> after(Body body, Way way, Set<Way> seen) throws Wrong {
        Instruction one = body.code.get(way.place);
        requireLocal(one, way.locals);
        List<Way> next = new ArrayList<>();
        for (Row row : body.rows) {
            if (row.has(way.place)) {
                next.add(new Way(row.at, "o", way.locals));
            }
        }
        String takes = takes(one);
        int below = way.stack.length() - takes.length();
        require(below >= 0);
        for (int i = 0; i < takes.length(); i++) {
            require(takes.charAt(i) == '*' || takes.charAt(i) == way.stack.charAt(below + i));
        }
        String top = way.stack.substring(below);
        String stack = way.stack.substring(0, below) + gives(one, top, way.locals);
        String locals = way.locals;
        if (one.op == 3) {
            locals = locals.substring(0, one.a) + top + locals.substring(one.a + 1);
        }
        for (int p : leads(body, way, seen)) {
            next.add(new Way(p, stack, locals));
        }
        return next;
    }

    private String takes(Instruction one) {
        switch (one.op) {
            case 3: case 4: case 5:
                return "*";
            case 6:
                return "**";
            case 7: case 8: case 9: case 10:
                return "ii";
            case 12: case 22: case 25:
                return "i";
            case 15: case 17: case 18: case 19: case 20: case 26:
                return "o";
            case 16:
                return "oi";
            case 21:
                return "iii".substring(0, bodies[one.a].arguments);
            default:
                return "";
        }
    }

    private String gives(Instruction one, String top, String locals) {
        switch (one.op) {
            case 1: case 7: case 8: case 9: case 10: case 15: case 21: case 26:
                return "i";
            case 13: case 14:
                return "o";
            case 2:
                return locals.substring(one.a, one.a + 1);
            case 5:
                return top + top;
            case 6:
                return "" + top.charAt(1) + top.charAt(0);
            case 23:
                return "" + (char) (200 + one.b);
            default:
                return "";
        }
    }

    private static List<Integer> leads(Body body, Way way, Set<Way> seen) {
        Instruction one = body.code.get(way.place);
        switch (one.op) {
            case 11: case 23:
                return List.of(one.b);
            case 12: case 17:
                return List.of(one.b, way.place + 1);
            case 20: case 22:
                return List.of();
            case 24:
                Set<Integer> behind = new HashSet<>();
                int start = way.locals.charAt(one.a) - 200;
                for (Way other : seen) {
                    Instruction from = body.code.get(other.place);
                    if (from.op == 23 && from.b == start) {
                        behind.add(other.place + 1);
                    }
                }
                return new ArrayList<>(behind);
            default:
                return List.of(way.place + 1);
        }
    }

    /** As kindAt answers, for a METHOD that is not WRONG. */
    static int kind(Map<Integer, String[]> met, int p, int what) {
        String[] at = met.get(p);
        if (at == null) {
            return -2;
        }
        if (what == -1) {
            return at[0].length();
        }
        String kinds = what < 10 ? at[0] : at[1];
        int i = what < 10 ? what : what - 10;
        if (i >= kinds.length() || kinds.charAt(i) == '-') {
            return -2;
        }
        char kind = kinds.charAt(i);
        return kind == 'i' ? 0 : kind == 'o' ? 1 : 10 + kind - 200;
    }

    boolean wrongToRun(int m) {
        Set<Integer> called = new HashSet<>();
        gather(m, called);
        for (int c : called) {
            if (check(c) == null) {
                return true;
            }
        }
        return false;
    }

    private void gather(int m, Set<Integer> called) {
        if (called.add(m)) {
            for (Instruction one : bodies[m].code) {
                if (one.op == 21) {
                    gather(one.a, called);
                }
            }
        }
    }

    // ---- the machine ----

    static final class Thing {
        int number;
        int type;
        int item;
    }

    private record Whole(int value) { }

    private record Ref(Thing thing) { }

    private record Comeback(int to) { }

    static final class Stop extends RuntimeException {
        private static final long serialVersionUID = 1;
    }

    static final class Flying extends RuntimeException {
        private static final long serialVersionUID = 1;
        final transient Thing thing;

        Flying(Thing thing) {
            this.thing = thing;
        }
    }

    final class Run {
        final List<Integer> trace = new ArrayList<>();
        int ending;
        int value;
        int done;
        int made;
        int frames;
        int most;
        int had;
        private final int limit;

        Run(int m, int limit, int... arguments) {
            this.limit = limit;
            try {
                value = call(m, Arrays.copyOf(arguments, bodies[m].arguments));
            } catch (Stop stop) {
                ending = -5;
            } catch (Flying flying) {
                ending = 16 + flying.thing.type;
            }
        }

        private int call(int m, int[] arguments) {
            frames++;
            most = Math.max(most, frames);
            if (bodies[m].locked) {
                trace.add(16 * (4000 + m) + 2);
            }
            List<Thing> entered = new ArrayList<>();
            int result = 0;
            Flying flying = null;
            try {
                result = body(bodies[m], arguments, entered);
            } catch (Flying thrown) {
                flying = thrown;
            }
            if (!entered.isEmpty()) {
                for (int i = entered.size() - 1; i >= 0; i--) {
                    trace.add(16 * entered.get(i).number + 3);
                }
                flying = flight(make(3));
            }
            if (bodies[m].locked) {
                trace.add(16 * (4000 + m) + 3);
            }
            frames--;
            if (flying != null) {
                throw flying;
            }
            return result;
        }

        private Thing make(int type) {
            Thing thing = new Thing();
            made++;
            thing.number = made;
            thing.type = type;
            trace.add(16 * type + 1);
            return thing;
        }

        private Flying flight(Thing thing) {
            trace.add(16 * thing.type + 4);
            return new Flying(thing);
        }

        private int body(Body body, int[] arguments, List<Thing> entered) {
            Object[] locals = new Object[8];
            for (int i = 0; i < arguments.length; i++) {
                locals[i] = new Whole(arguments[i]);
            }
            Deque<Object> stack = new ArrayDeque<>();
            int p = 0;
            while (true) {
                if (done == limit) {
                    throw new Stop();
                }
                done++;
                try {
                    Instruction one = body.code.get(p);
                    if (one.op == 22) {
                        return whole(stack);
                    }
                    p = instruction(one, p, locals, stack, entered);
                } catch (Flying flying) {
                    Row row = rowFor(body, p, flying.thing.type);
                    if (row == null) {
                        throw flying;
                    }
                    had++;
                    trace.add(16 * flying.thing.type + 5);
                    stack.clear();
                    stack.push(new Ref(flying.thing));
                    p = row.at;
                }
            }
        }

        private Row rowFor(Body body, int p, int type) {
            for (Row row : body.rows) {
                for (int t = type; t >= 0; t = ABOVE[t]) {
                    if (row.has(p) && row.type == t) {
                        return row;
                    }
                }
            }
            return null;
        }

        private int whole(Deque<Object> stack) {
            return ((Whole) stack.pop()).value;
        }

        private Thing some(Deque<Object> stack) {
            Thing thing = ((Ref) stack.pop()).thing;
            if (thing == null) {
                throw flight(make(2));
            }
            return thing;
        }

        private int instruction(Instruction one, int p, Object[] locals, Deque<Object> stack, List<Thing> entered) {
            int y;
            switch (one.op) {
                case 0: break;
                case 1: stack.push(new Whole(one.a)); break;
                case 2: stack.push(locals[one.a]); break;
                case 3: locals[one.a] = stack.pop(); break;
                case 4: stack.pop(); break;
                case 5: stack.push(stack.peek()); break;
                case 6:
                    Object upper = stack.pop();
                    Object lower = stack.pop();
                    stack.push(upper);
                    stack.push(lower);
                    break;
                case 7: y = whole(stack); stack.push(new Whole(whole(stack) + y)); break;
                case 8: y = whole(stack); stack.push(new Whole(whole(stack) - y)); break;
                case 9: y = whole(stack); stack.push(new Whole(whole(stack) * y)); break;
                case 10:
                    y = whole(stack);
                    if (y == 0) {
                        throw flight(make(1));
                    }
                    stack.push(new Whole(whole(stack) / y));
                    break;
                case 11: return one.b;
                case 12:
                    int x = whole(stack);
                    return (one.a == 0 ? x == 0 : one.a == 1 ? x != 0 : x < 0) ? one.b : p + 1;
                case 13: stack.push(new Ref(null)); break;
                case 14: stack.push(new Ref(make(one.a))); break;
                case 15: stack.push(new Whole(some(stack).item)); break;
                case 16: y = whole(stack); some(stack).item = y; break;
                case 17: return ((Ref) stack.pop()).thing == null ? one.b : p + 1;
                case 18:
                    Thing in = some(stack);
                    entered.add(in);
                    trace.add(16 * in.number + 2);
                    break;
                case 19:
                    Thing out = some(stack);
                    int last = entered.lastIndexOf(out);
                    if (last < 0) {
                        throw flight(make(3));
                    }
                    entered.remove(last);
                    trace.add(16 * out.number + 3);
                    break;
                case 20: throw flight(some(stack));
                case 21:
                    if (frames == 12) {
                        throw flight(make(4));
                    }
                    int[] arguments = new int[bodies[one.a].arguments];
                    for (int i = arguments.length - 1; i >= 0; i--) {
                        arguments[i] = whole(stack);
                    }
                    stack.push(new Whole(call(one.a, arguments)));
                    break;
                case 23: stack.push(new Comeback(p + 1)); return one.b;
                case 24: return ((Comeback) locals[one.a]).to;
                case 25: trace.add(16 * (whole(stack) & 65535)); break;
                case 26: stack.push(new Whole(some(stack).type)); break;
                default: locals[one.a] = new Whole(((Whole) locals[one.a]).value + one.b);
            }
            return p + 1;
        }
    }

    // ---- rewriting: INSTRUCTIONS point at each other, PLACES are found again at the end ----

    private static boolean jumps(Instruction one) {
        return one.op == 11 || one.op == 12 || one.op == 17 || one.op == 23;
    }

    /** The CODE, with INSTRUCTIONS behind it for what points there. */
    private static List<Instruction> padded(Body body) {
        List<Instruction> code = new ArrayList<>(body.code);
        while (code.size() < PADDING) {
            code.add(new Instruction(-1, 0, 0));
        }
        for (Instruction one : body.code) {
            one.target = jumps(one) ? code.get(one.b) : null;
        }
        return code;
    }

    private int backOf(Body body, int b) {
        if (b >= body.code.size() || body.code.get(b).op != 3) {
            return -1;
        }
        int r = body.code.get(b).a;
        int e = b;
        while (e < body.code.size() && body.code.get(e).op != 24) {
            e++;
        }
        if (e == body.code.size() || body.code.get(e).a != r) {
            return -1;
        }
        for (int i = 0; i < body.code.size(); i++) {
            Instruction one = body.code.get(i);
            boolean jump = jumps(one) && one.op != 23;
            if (b < i && i < e) {
                boolean local = one.op == 2 || one.op == 3 || one.op == 27;
                if (one.op == 23 || local && one.a == r || jump && (one.b <= b || one.b > e)) {
                    return -1;
                }
            } else if (jump && b <= one.b && one.b <= e) {
                return -1;
            }
        }
        for (Row row : body.rows) {
            if (b <= row.at && row.at <= e) {
                return -1;
            }
        }
        return e;
    }

    int unfold(int m, int p) {
        Body body = bodies[m];
        if (check(m) == null) {
            return -4;
        }
        if (p < 0 || p >= body.code.size() || body.code.get(p).op != 23) {
            return -2;
        }
        int b = body.code.get(p).b;
        int e = backOf(body, b);
        if (e < 0 || b <= p && p <= e) {
            return -2;
        }
        List<Instruction> old = padded(body);
        List<Instruction> copy = new ArrayList<>();
        Map<Instruction, Instruction> twin = new HashMap<>();
        for (int i = b + 1; i < e; i++) {
            Instruction one = old.get(i);
            Instruction two = new Instruction(one.op, one.a, one.b);
            copy.add(two);
            twin.put(one, two);
        }
        twin.put(old.get(e), old.get(p + 1));
        for (int i = b + 1; i < e; i++) {
            twin.get(old.get(i)).target = twin.get(old.get(i).target);
        }
        List<Instruction> fresh = replaced(old, p, copy);
        List<Row> rows = new ArrayList<>();
        for (Row row : body.rows) {
            int at = placeOf(old.get(row.at), old.get(p), p, fresh);
            span(rows, row, at, old.subList(0, p), 0, fresh, null);
            span(rows, row, at, old.subList(b + 1, e), b + 1, fresh, twin);
            span(rows, row, at, old.subList(p + 1, old.size() - 100), p + 1, fresh, null);
        }
        return settle(body, old.get(p), p, fresh, rows, body.code.size() - 1 + copy.size());
    }

    /** A ROW for those of the INSTRUCTIONS that the old one has, or none. */
    private static void span(List<Row> rows, Row row, int at, List<Instruction> some, int first, List<Instruction> fresh, Map<Instruction, Instruction> twin) {
        int low = Integer.MAX_VALUE;
        int high = -1;
        for (int i = 0; i < some.size(); i++) {
            if (row.has(first + i)) {
                Instruction one = twin == null ? some.get(i) : twin.get(some.get(i));
                low = Math.min(low, fresh.indexOf(one));
                high = Math.max(high, fresh.indexOf(one));
            }
        }
        if (high >= 0) {
            rows.add(new Row(low, high + 1, at, row.type));
        }
    }

    private static List<Instruction> replaced(List<Instruction> old, int p, List<Instruction> by) {
        List<Instruction> fresh = new ArrayList<>(old.subList(0, p));
        fresh.addAll(by);
        fresh.addAll(old.subList(p + 1, old.size()));
        return fresh;
    }

    private static int placeOf(Instruction one, Instruction gone, int p, List<Instruction> fresh) {
        return one == gone ? p : fresh.indexOf(one);
    }

    private static int settle(Body body, Instruction gone, int p, List<Instruction> fresh, List<Row> rows, int size) {
        if (size > 60 || rows.size() > 8) {
            return -3;
        }
        List<Instruction> code = fresh.subList(0, size);
        for (Instruction one : code) {
            if (one.target != null) {
                one.b = placeOf(one.target, gone, p, fresh);
            }
        }
        body.code.clear();
        body.code.addAll(new ArrayList<>(code));
        body.rows.clear();
        body.rows.addAll(rows);
        return size;
    }

    private static int greatest(Body body) {
        int greatest = body.arguments - 1;
        for (Instruction one : body.code) {
            if (one.op == 2 || one.op == 3 || one.op == 24 || one.op == 27) {
                greatest = Math.max(greatest, one.a);
            }
        }
        return greatest;
    }

    int inline(int m, int p) {
        Body body = bodies[m];
        Map<Integer, String[]> mine = check(m);
        if (mine == null) {
            return -4;
        }
        if (p < 0 || p >= body.code.size() || body.code.get(p).op != 21) {
            return -2;
        }
        int c = body.code.get(p).a;
        Body called = bodies[c];
        Map<Integer, String[]> its = check(c);
        if (its == null) {
            return -4;
        }
        if (!mine.containsKey(p) || c == m || called.locked || mine.get(p)[0].length() != called.arguments) {
            return -2;
        }
        for (int i = 0; i < called.code.size(); i++) {
            int op = called.code.get(i).op;
            boolean barred = op == 18 || op == 19 || op == 23 || op == 24;
            if (barred || op == 22 && its.containsKey(i) && its.get(i)[0].length() > 1) {
                return -2;
            }
        }
        int f = greatest(body) + 1;
        if (f + greatest(called) > 7) {
            return -2;
        }
        return writeOut(body, p, called, f);
    }

    private static int writeOut(Body body, int p, Body called, int f) {
        List<Instruction> old = padded(body);
        List<Instruction> by = new ArrayList<>();
        for (int i = called.arguments - 1; i >= 0; i--) {
            by.add(new Instruction(3, f + i, 0));
        }
        int start = p + called.arguments;
        for (Instruction one : called.code) {
            boolean local = one.op == 2 || one.op == 3 || one.op == 27;
            Instruction two = new Instruction(one.op, local ? one.a + f : one.a, jumps(one) ? one.b + start : one.b);
            if (one.op == 22) {
                two = new Instruction(11, 0, 0);
                two.target = old.get(p + 1);
            }
            by.add(two);
        }
        List<Instruction> fresh = replaced(old, p, by);
        List<Row> rows = new ArrayList<>();
        for (Row row : called.rows) {
            if (row.from < called.code.size()) {
                rows.add(new Row(start + row.from, start + Math.min(row.to, called.code.size()), start + row.at, row.type));
            }
        }
        for (Row row : body.rows) {
            Instruction gone = old.get(p);
            rows.add(new Row(placeOf(old.get(row.from), gone, p, fresh), placeOf(old.get(row.to), gone, p, fresh),
                placeOf(old.get(row.at), gone, p, fresh), row.type));
        }
        return settle(body, old.get(p), p, fresh, rows, body.code.size() - 1 + by.size());
    }
}
