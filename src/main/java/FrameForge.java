/**
 * Two programs of methods with subroutines, locks and exceptions: a machine that runs them, a
 * checker that follows the kinds of their values, and the writing out of subroutines and methods
 * where they are called. The words in capitals are those of the document.
 */
public final class FrameForge {
    public static final int REFUSED = -1;
    public static final int NONE = -2;
    public static final int FULL = -3;
    public static final int WRONG = -4;
    public static final int STOPPED = -5;

    private static final int PROGRAMS = 2;
    private static final int METHODS = 6;
    private static final int MOST_ARGUMENTS = 3;
    private static final int MOST_CODE = 60;
    private static final int MOST_ROWS = 8;
    private static final int LOCALS = 8;
    private static final int MOST_STACK = 8;
    private static final int MOST_FRAMES = 12;
    private static final int MOST_STEPS = 1000;
    private static final int MOST_KEPT = 120;
    private static final int TYPES = 8;

    private static final int INT = 1;
    private static final int LOAD = 2;
    private static final int STORE = 3;
    private static final int POP = 4;
    private static final int DUP = 5;
    private static final int SWAP = 6;
    private static final int ADD = 7;
    private static final int SUB = 8;
    private static final int MUL = 9;
    private static final int DIV = 10;
    private static final int GOTO = 11;
    private static final int IF = 12;
    private static final int NULL = 13;
    private static final int NEW = 14;
    private static final int GET = 15;
    private static final int PUT = 16;
    private static final int IF_NULL = 17;
    private static final int ENTER = 18;
    private static final int LEAVE = 19;
    private static final int THROW = 20;
    private static final int CALL = 21;
    private static final int RETURN = 22;
    private static final int GOSUB = 23;
    private static final int BACK = 24;
    private static final int SAY = 25;
    private static final int TYPE = 26;
    private static final int INC = 27;
    private static final int OPS = 28;

    private static final int HAS_NOT = -1;
    private static final int ANY_INT = 99;

    // By op: the greatest a and the greatest b, HAS_NOT or ANY_INT.
    private static final int[] MOST_A = {
        -1, 99, 7, 7, -1, -1, -1, -1, -1, -1, -1, -1, 2, -1,
        7, -1, -1, -1, -1, -1, -1, 5, -1, -1, 7, -1, -1, 7};
    private static final int[] MOST_B = {
        -1, -1, -1, -1, -1, -1, -1, -1, -1, -1, -1, 59, 59, -1,
        -1, -1, -1, 59, -1, -1, -1, -1, -1, 59, -1, -1, -1, 99};

    private static final int BY_ZERO_TYPE = 1;
    private static final int NULL_TYPE = 2;
    private static final int LOCK_TYPE = 3;
    private static final int DEEP_TYPE = 4;

    // By TYPE: a bit for itself and for each TYPE above it.
    private static final int[] SELF_AND_ABOVE = {1, 3, 5, 9, 17, 35, 69, 163};

    private static final int SAID = 0;
    private static final int MADE = 1;
    private static final int ENTERED = 2;
    private static final int LEFT = 3;
    private static final int THROWN = 4;
    private static final int HAD = 5;
    private static final int METHOD_LOCK = 4000;

    private static final int ENDED_BY = 16;

    private static final int INT_KIND = 0;
    private static final int OBJECT_KIND = 1;
    private static final int RETURN_KIND = 10;

    private final Program[] programs;
    private final Checker checker;
    private final Machine machine;
    private final Rewriter rewriter;
    private final Ledger latest;
    private final Ledger other;
    private int written;

    public FrameForge() {
        programs = new Program[PROGRAMS];
        for (int p = 0; p < PROGRAMS; p++) {
            programs[p] = new Program();
        }
        checker = new Checker();
        machine = new Machine();
        rewriter = new Rewriter();
        latest = new Ledger();
        other = new Ledger();
        written = 0;
    }

    public boolean write(int p) {
        if (!isBelow(p, PROGRAMS)) {
            return false;
        }
        written = p;
        return true;
    }

    public int branch() {
        programs[1].become(programs[0]);
        written = 1;
        return programs[1].instructions();
    }

    public boolean method(int m, int arguments, boolean locked) {
        if (!isBelow(m, METHODS) || !isBelow(arguments, MOST_ARGUMENTS + 1)) {
            return false;
        }
        writtenMethod(m).begin(arguments, locked);
        return true;
    }

    public int add(int m, int op, int a, int b) {
        if (!isBelow(m, METHODS) || !isInstruction(op, a, b)) {
            return REFUSED;
        }
        Method method = writtenMethod(m);
        if (method.size >= MOST_CODE) {
            return FULL;
        }
        method.put(method.size, op, a, b);
        method.size++;
        return method.size;
    }

    public boolean change(int m, int i, int op, int a, int b) {
        if (!isBelow(m, METHODS) || !isInstruction(op, a, b)) {
            return false;
        }
        Method method = writtenMethod(m);
        if (!isBelow(i, method.size)) {
            return false;
        }
        method.put(i, op, a, b);
        return true;
    }

    public int row(int m, int from, int to, int at, int type) {
        boolean places = isBelow(from, MOST_CODE) && isBelow(at, MOST_CODE);
        boolean some = to > from && to <= MOST_CODE;
        if (!isBelow(m, METHODS) || !places || !some || !isBelow(type, TYPES)) {
            return REFUSED;
        }
        Method method = writtenMethod(m);
        return method.addRow(from, to, at, type) ? method.rows : FULL;
    }

    public int check(int m) {
        if (!isBelow(m, METHODS)) {
            return REFUSED;
        }
        return checker.follow(programs[written], m) ? checker.places : WRONG;
    }

    public int kindAt(int m, int p, int what) {
        boolean ofStack = what >= -1 && what < MOST_STACK;
        boolean ofLocals = what >= 10 && what < 10 + LOCALS;
        if (!isBelow(m, METHODS) || !ofStack && !ofLocals) {
            return REFUSED;
        }
        if (!checker.follow(programs[written], m) || !checker.comesTo(p)) {
            return NONE;
        }
        if (what == -1) {
            return checker.depths[p];
        }
        return ofStack ? checker.stackKind(p, what) : checker.localKind(p, what - 10);
    }

    public int run(int p, int m, int limit, int x, int y, int z) {
        boolean numbers = isBelow(p, PROGRAMS) && isBelow(m, METHODS);
        if (!numbers || !isBelow(limit, MOST_STEPS + 1)) {
            return REFUSED;
        }
        if (!allSound(programs[p], m)) {
            return WRONG;
        }
        machine.play(programs[p], m, limit, x, y, z, latest);
        return latest.ending;
    }

    public int ran(int what) {
        switch (what) {
            case 0:
                return latest.value;
            case 1:
                return latest.done;
            case 2:
                return latest.made;
            case 3:
                return latest.mostFrames;
            case 4:
                return latest.entries;
            case 5:
                return latest.had;
            default:
                return REFUSED;
        }
    }

    public int trace(int k) {
        return isBelow(k, latest.entriesKept()) ? latest.kept[k] : NONE;
    }

    public int compare(int m, int x, int y, int z) {
        if (!isBelow(m, METHODS)) {
            return REFUSED;
        }
        if (!allSound(programs[0], m) || !allSound(programs[1], m)) {
            return WRONG;
        }
        machine.play(programs[0], m, MOST_STEPS, x, y, z, other);
        machine.play(programs[1], m, MOST_STEPS, x, y, z, latest);
        if (other.ending == STOPPED || latest.ending == STOPPED) {
            return 3;
        }
        if (other.ending != latest.ending || other.value != latest.value) {
            return 1;
        }
        return latest.sameEntries(other) ? 0 : 2;
    }

    public int unfold(int m, int p) {
        if (!isBelow(m, METHODS)) {
            return REFUSED;
        }
        if (!checker.follow(programs[written], m)) {
            return WRONG;
        }
        return rewriter.writeOutSubroutine(writtenMethod(m), p);
    }

    public int inline(int m, int p) {
        if (!isBelow(m, METHODS)) {
            return REFUSED;
        }
        Method method = writtenMethod(m);
        if (!checker.follow(programs[written], m)) {
            return WRONG;
        }
        if (!method.hasAt(p, CALL)) {
            return NONE;
        }
        int c = method.a[p];
        Method called = writtenMethod(c);
        // Read before the CHECKER goes through c, which overwrites what it knows of m.
        boolean fits = checker.comesTo(p) && checker.depths[p] == called.arguments;
        if (!checker.follow(programs[written], c)) {
            return WRONG;
        }
        boolean plain = c != m && !called.locked && !called.hasLocksOrSubroutines();
        int most = method.greatestLocal() + 1 + called.greatestLocal();
        if (!fits || !plain || !checker.returnsAlone(called) || most >= LOCALS) {
            return NONE;
        }
        return rewriter.writeOutCall(method, p, called);
    }

    public int code(int m, int i, int what) {
        if (!isBelow(m, METHODS) || !isBelow(what, 3)) {
            return REFUSED;
        }
        Method method = writtenMethod(m);
        if (!isBelow(i, method.size)) {
            return NONE;
        }
        if (what == 0) {
            return method.op[i];
        }
        return what == 1 ? method.a[i] : method.b[i];
    }

    public int table(int m, int i, int what) {
        if (!isBelow(m, METHODS) || !isBelow(what, 4)) {
            return REFUSED;
        }
        Method method = writtenMethod(m);
        if (i == -1) {
            return method.fact(what);
        }
        return isBelow(i, method.rows) ? method.rowPart(i, what) : NONE;
    }

    private Method writtenMethod(int m) {
        return programs[written].methods[m];
    }

    private boolean allSound(Program program, int m) {
        int called = program.calledFrom(m);
        for (int c = 0; c < METHODS; c++) {
            if (hasBit(called, c) && !checker.follow(program, c)) {
                return false;
            }
        }
        return true;
    }

    private static boolean isBelow(int number, int bound) {
        return number >= 0 && number < bound;
    }

    private static boolean hasBit(int bits, int bit) {
        return (bits >> bit & 1) != 0;
    }

    private static boolean isInstruction(int op, int a, int b) {
        return isBelow(op, OPS) && isOperand(a, MOST_A[op]) && isOperand(b, MOST_B[op]);
    }

    private static boolean isOperand(int number, int most) {
        return most == HAS_NOT || most == ANY_INT || isBelow(number, most + 1);
    }

    private static boolean isJump(int op) {
        return op == GOTO || op == IF || op == IF_NULL;
    }

    /** One METHOD: its CODE and its TABLE. */
    private static final class Method {
        final int[] op = new int[MOST_CODE];
        final int[] a = new int[MOST_CODE];
        final int[] b = new int[MOST_CODE];
        final int[] from = new int[MOST_ROWS];
        final int[] to = new int[MOST_ROWS];
        final int[] at = new int[MOST_ROWS];
        final int[] type = new int[MOST_ROWS];
        int size;
        int rows;
        int arguments;
        boolean locked;

        void begin(int takes, boolean isLocked) {
            size = 0;
            rows = 0;
            arguments = takes;
            locked = isLocked;
        }

        void become(Method model) {
            begin(model.arguments, model.locked);
            size = model.size;
            System.arraycopy(model.op, 0, op, 0, size);
            System.arraycopy(model.a, 0, a, 0, size);
            System.arraycopy(model.b, 0, b, 0, size);
            rows = model.rows;
            System.arraycopy(model.from, 0, from, 0, rows);
            System.arraycopy(model.to, 0, to, 0, rows);
            System.arraycopy(model.at, 0, at, 0, rows);
            System.arraycopy(model.type, 0, type, 0, rows);
        }

        void put(int i, int newOp, int newA, int newB) {
            op[i] = newOp;
            a[i] = MOST_A[newOp] == HAS_NOT ? 0 : newA;
            b[i] = MOST_B[newOp] == HAS_NOT ? 0 : newB;
        }

        boolean addRow(int newFrom, int newTo, int newAt, int newType) {
            if (rows >= MOST_ROWS) {
                return false;
            }
            from[rows] = newFrom;
            to[rows] = newTo;
            at[rows] = newAt;
            type[rows] = newType;
            rows++;
            return true;
        }

        boolean hasAt(int p, int wanted) {
            return isBelow(p, size) && op[p] == wanted;
        }

        boolean rowCovers(int r, int p) {
            return from[r] <= p && to[r] > p;
        }

        /** The first ROW that HAS what is THROWN, or NONE. */
        int rowFor(int p, int thrownType) {
            for (int r = 0; r < rows; r++) {
                if (rowCovers(r, p) && hasBit(SELF_AND_ABOVE[thrownType], type[r])) {
                    return r;
                }
            }
            return NONE;
        }

        int rowPart(int r, int what) {
            switch (what) {
                case 0:
                    return from[r];
                case 1:
                    return to[r];
                case 2:
                    return at[r];
                default:
                    return type[r];
            }
        }

        int fact(int what) {
            switch (what) {
                case 0:
                    return size;
                case 1:
                    return rows;
                case 2:
                    return arguments;
                default:
                    return locked ? 1 : 0;
            }
        }

        /** A bit for each METHOD that a CALL in the CODE names. */
        int calls() {
            int bits = 0;
            for (int i = 0; i < size; i++) {
                if (op[i] == CALL) {
                    bits |= 1 << a[i];
                }
            }
            return bits;
        }

        /** The greatest LOCAL that the CODE names or an ARGUMENT lies in; -1 if there is none. */
        int greatestLocal() {
            int greatest = arguments - 1;
            for (int i = 0; i < size; i++) {
                if (op[i] == LOAD || op[i] == STORE || op[i] == BACK || op[i] == INC) {
                    greatest = Math.max(greatest, a[i]);
                }
            }
            return greatest;
        }

        boolean hasLocksOrSubroutines() {
            for (int i = 0; i < size; i++) {
                if (op[i] == ENTER || op[i] == LEAVE || op[i] == GOSUB || op[i] == BACK) {
                    return true;
                }
            }
            return false;
        }

        /** The PLACE of the BACK of the SUBROUTINE at start, or NONE if that is not PLAIN. */
        int plainEnd(int start) {
            if (!hasAt(start, STORE)) {
                return NONE;
            }
            int end = start + 1;
            while (end < size && op[end] != BACK) {
                end++;
            }
            if (end >= size || a[end] != a[start]) {
                return NONE;
            }
            for (int i = 0; i < size; i++) {
                boolean inside = i > start && i < end;
                if (inside ? !keepsPlain(i, start, end) : leadsInto(i, start, end)) {
                    return NONE;
                }
            }
            for (int r = 0; r < rows; r++) {
                if (at[r] >= start && at[r] <= end) {
                    return NONE;
                }
            }
            return end;
        }

        private boolean keepsPlain(int i, int start, int end) {
            boolean usesLocal = op[i] == LOAD || op[i] == STORE || op[i] == INC;
            if (op[i] == GOSUB || usesLocal && a[i] == a[start]) {
                return false;
            }
            return !isJump(op[i]) || b[i] > start && b[i] <= end;
        }

        private boolean leadsInto(int i, int start, int end) {
            return isJump(op[i]) && b[i] >= start && b[i] <= end;
        }
    }

    /** Six METHODS. */
    private static final class Program {
        final Method[] methods = new Method[METHODS];

        Program() {
            for (int m = 0; m < METHODS; m++) {
                methods[m] = new Method();
            }
        }

        void become(Program model) {
            for (int m = 0; m < METHODS; m++) {
                methods[m].become(model.methods[m]);
            }
        }

        int instructions() {
            int sum = 0;
            for (int m = 0; m < METHODS; m++) {
                sum += methods[m].size;
            }
            return sum;
        }

        /** A bit for METHOD m and for each that is CALLED by one of these. */
        int calledFrom(int m) {
            int known = 0;
            int wanted = 1 << m;
            for (int round = 0; round < METHODS && known != wanted; round++) {
                known = wanted;
                for (int c = 0; c < METHODS; c++) {
                    if (hasBit(known, c)) {
                        wanted |= methods[c].calls();
                    }
                }
            }
            return wanted;
        }
    }

    /** THE CHECKER; what it knows is of the METHOD that it followed last. */
    private static final class Checker {
        // KINDS at a PLACE lie in one piece: those of the STACK, then those of the LOCALS.
        private static final int PIECE = MOST_STACK + LOCALS;
        // Each round follows a PLACE whose KINDS became fewer, or a BACK that got a new GOSUB.
        private static final int MOST_ROUNDS = 10000;

        final int[] depths = new int[MOST_CODE];
        int places;
        private final int[] kinds = new int[MOST_CODE * PIECE];
        private final boolean[] reached = new boolean[MOST_CODE];
        private final boolean[] waiting = new boolean[MOST_CODE];
        private final int[] now = new int[PIECE];
        private final int[] caught = new int[PIECE];
        private int depth;
        private int size;
        private boolean wrong;

        /** Whether METHOD m is not WRONG. */
        boolean follow(Program program, int m) {
            Method method = program.methods[m];
            begin(method);
            boolean more = !wrong;
            for (int round = 0; more && round < MOST_ROUNDS; round++) {
                more = false;
                for (int p = 0; p < size && !wrong; p++) {
                    if (waiting[p]) {
                        waiting[p] = false;
                        more = true;
                        goOnFrom(program, method, p);
                    }
                }
            }
            return !wrong;
        }

        boolean comesTo(int p) {
            return !wrong && isBelow(p, size) && reached[p];
        }

        int stackKind(int p, int i) {
            return i < depths[p] ? kinds[p * PIECE + i] : NONE;
        }

        int localKind(int p, int local) {
            return kinds[p * PIECE + MOST_STACK + local];
        }

        /** Whether each RETURN that may be come to has nothing below what it takes. */
        boolean returnsAlone(Method method) {
            for (int p = 0; p < size; p++) {
                if (reached[p] && method.hasAt(p, RETURN) && depths[p] > 1) {
                    return false;
                }
            }
            return true;
        }

        private void begin(Method method) {
            size = method.size;
            places = 0;
            wrong = false;
            for (int p = 0; p < size; p++) {
                reached[p] = false;
                waiting[p] = false;
            }
            for (int i = 0; i < LOCALS; i++) {
                now[MOST_STACK + i] = i < method.arguments ? INT_KIND : NONE;
            }
            comeTo(method, 0, now, 0);
        }

        private void goOnFrom(Program program, Method method, int p) {
            System.arraycopy(kinds, p * PIECE, now, 0, PIECE);
            depth = depths[p];
            System.arraycopy(now, MOST_STACK, caught, MOST_STACK, LOCALS);
            caught[0] = OBJECT_KIND;
            for (int r = 0; r < method.rows; r++) {
                if (method.rowCovers(r, p)) {
                    comeTo(method, method.at[r], caught, 1);
                }
            }
            if (method.op[p] == CALL) {
                passArguments(program.methods[method.a[p]].arguments);
            } else {
                takeAndGive(method, p);
            }
            if (!wrong) {
                leadOn(method, p);
            }
        }

        private void passArguments(int arguments) {
            for (int i = 0; i < arguments; i++) {
                take(INT_KIND);
            }
            give(INT_KIND);
        }

        private void takeAndGive(Method method, int p) {
            switch (method.op[p]) {
                case INT:
                    give(INT_KIND);
                    break;
                case NULL:
                case NEW:
                    give(OBJECT_KIND);
                    break;
                case POP:
                    takeAny();
                    break;
                case DUP:
                    int twice = takeAny();
                    give(twice);
                    give(twice);
                    break;
                case SWAP:
                    int upper = takeAny();
                    int lower = takeAny();
                    give(upper);
                    give(lower);
                    break;
                case ADD:
                case SUB:
                case MUL:
                case DIV:
                    take(INT_KIND);
                    take(INT_KIND);
                    give(INT_KIND);
                    break;
                case IF:
                case RETURN:
                case SAY:
                    take(INT_KIND);
                    break;
                case GOSUB:
                    give(RETURN_KIND + method.b[p]);
                    break;
                case LOAD:
                case STORE:
                case BACK:
                case INC:
                    useLocal(method.op[p], MOST_STACK + method.a[p]);
                    break;
                default:
                    useObject(method.op[p]);
            }
        }

        private void useLocal(int op, int local) {
            if (op == STORE) {
                now[local] = takeAny();
                return;
            }
            int kind = now[local];
            if (op == LOAD) {
                wrong |= kind == NONE || kind >= RETURN_KIND;
                give(kind);
            } else if (op == INC) {
                wrong |= kind != INT_KIND;
            } else {
                wrong |= kind < RETURN_KIND;
            }
        }

        /** What takes an OBJECT; NOP and GOTO take none. */
        private void useObject(int op) {
            switch (op) {
                case GET:
                case TYPE:
                    take(OBJECT_KIND);
                    give(INT_KIND);
                    break;
                case PUT:
                    take(INT_KIND);
                    take(OBJECT_KIND);
                    break;
                case IF_NULL:
                case ENTER:
                case LEAVE:
                case THROW:
                    take(OBJECT_KIND);
                    break;
                default:
            }
        }

        private void give(int kind) {
            if (depth >= MOST_STACK) {
                wrong = true;
                return;
            }
            now[depth] = kind;
            depth++;
        }

        private int takeAny() {
            if (depth == 0) {
                wrong = true;
                return NONE;
            }
            depth--;
            return now[depth];
        }

        private void take(int kind) {
            if (takeAny() != kind) {
                wrong = true;
            }
        }

        private void leadOn(Method method, int p) {
            int op = method.op[p];
            if (isJump(op) || op == GOSUB) {
                comeTo(method, method.b[p], now, depth);
            }
            if (op == BACK) {
                int start = now[MOST_STACK + method.a[p]] - RETURN_KIND;
                for (int i = 0; i < size; i++) {
                    if (reached[i] && method.op[i] == GOSUB && method.b[i] == start) {
                        comeTo(method, i + 1, now, depth);
                    }
                }
            }
            boolean goesElsewhere = op == GOTO || op == GOSUB || op == BACK;
            if (!goesElsewhere && op != THROW && op != RETURN) {
                comeTo(method, p + 1, now, depth);
            }
        }

        private void comeTo(Method method, int p, int[] way, int wayDepth) {
            if (!isBelow(p, size)) {
                wrong = true;
            } else if (reached[p]) {
                meet(p, way, wayDepth);
            } else {
                System.arraycopy(way, 0, kinds, p * PIECE, PIECE);
                depths[p] = wayDepth;
                reached[p] = true;
                waiting[p] = true;
                places++;
                if (method.op[p] == GOSUB) {
                    followBacksAgain(method);
                }
            }
        }

        private void meet(int p, int[] way, int wayDepth) {
            int piece = p * PIECE;
            wrong |= depths[p] != wayDepth;
            for (int i = 0; i < wayDepth && !wrong; i++) {
                wrong = kinds[piece + i] != way[i];
            }
            for (int i = MOST_STACK; i < PIECE; i++) {
                if (kinds[piece + i] != NONE && kinds[piece + i] != way[i]) {
                    kinds[piece + i] = NONE;
                    waiting[p] = true;
                }
            }
        }

        // A BACK that was followed earlier may lead behind a GOSUB that is come to only now.
        private void followBacksAgain(Method method) {
            for (int p = 0; p < size; p++) {
                if (reached[p] && method.op[p] == BACK) {
                    waiting[p] = true;
                }
            }
        }
    }

    /** What is told of a run when it is over. */
    private static final class Ledger {
        final int[] kept = new int[MOST_KEPT];
        int ending;
        int value;
        int done;
        int made;
        int mostFrames;
        int entries;
        int had;

        void clear() {
            ending = STOPPED;
            value = 0;
            done = 0;
            made = 0;
            mostFrames = 0;
            entries = 0;
            had = 0;
        }

        void note(int sort, int number) {
            if (entries < MOST_KEPT) {
                kept[entries] = 16 * number + sort;
            }
            entries++;
        }

        int entriesKept() {
            return Math.min(entries, MOST_KEPT);
        }

        boolean sameEntries(Ledger model) {
            if (entries != model.entries) {
                return false;
            }
            for (int k = 0; k < entriesKept(); k++) {
                if (kept[k] != model.kept[k]) {
                    return false;
                }
            }
            return true;
        }
    }

    /** A FRAME; VALUES are bare ints (an OBJECT its number, null 0), for the CHECKER knows KINDS. */
    private static final class Frame {
        final int[] locals = new int[LOCALS];
        private final int[] stack = new int[MOST_STACK];
        private int depth;
        // The PLACE of the INSTRUCTION that is being done, or of the CALL that is open.
        int place;
        int next;
        int number;
        int firstLock;

        void begin(int m, int held) {
            number = m;
            firstLock = held;
            place = 0;
            next = 0;
            depth = 0;
        }

        void goOnWith(int object, int at) {
            depth = 0;
            push(object);
            next = at;
        }

        void push(int value) {
            if (depth < MOST_STACK) {
                stack[depth] = value;
                depth++;
            }
        }

        int pop() {
            if (depth == 0) {
                return 0;
            }
            depth--;
            return stack[depth];
        }
    }

    /**
     * What runs METHODS that are not WRONG: the CHECKER has looked at each PLACE that is gone to,
     * and at the KIND of each VALUE that is used here as an OBJECT or as a RETURN.
     */
    private static final class Machine {
        // No run makes more OBJECTS than it does INSTRUCTIONS: one that a FRAME ends by has its ENTER.
        private static final int MOST_OBJECTS = MOST_STEPS;

        private final Frame[] frames = new Frame[MOST_FRAMES];
        private final int[] types = new int[MOST_OBJECTS + 1];
        private final int[] items = new int[MOST_OBJECTS + 1];
        private final int[] locks = new int[MOST_STEPS];
        private Program program;
        private Ledger ledger;
        private int open;
        private int held;
        private int thrown;

        Machine() {
            for (int i = 0; i < MOST_FRAMES; i++) {
                frames[i] = new Frame();
            }
        }

        void play(Program toRun, int m, int limit, int x, int y, int z, Ledger toFill) {
            program = toRun;
            ledger = toFill;
            ledger.clear();
            open = 0;
            held = 0;
            thrown = 0;
            Frame first = openFrame(m);
            first.locals[0] = x;
            first.locals[1] = y;
            first.locals[2] = z;
            for (int left = limit; left > 0 && ledger.ending == STOPPED; left--) {
                ledger.done++;
                step(frames[open - 1]);
                if (thrown != 0) {
                    findRow();
                }
            }
        }

        private Frame openFrame(int m) {
            Frame frame = frames[open];
            open++;
            ledger.mostFrames = Math.max(ledger.mostFrames, open);
            frame.begin(m, held);
            if (program.methods[m].locked) {
                ledger.note(ENTERED, METHOD_LOCK + m);
            }
            return frame;
        }

        private void step(Frame frame) {
            Method method = program.methods[frame.number];
            int place = frame.next;
            frame.place = place;
            frame.next = place + 1;
            int a = method.a[place];
            int b = method.b[place];
            switch (method.op[place]) {
                case INT:
                    frame.push(a);
                    break;
                case LOAD:
                    frame.push(frame.locals[a]);
                    break;
                case STORE:
                case BACK:
                case INC:
                    useLocal(frame, method.op[place], a, b);
                    break;
                case NULL:
                    frame.push(0);
                    break;
                case NEW:
                    frame.push(make(a));
                    break;
                case GOTO:
                case IF:
                case IF_NULL:
                case GOSUB:
                    turn(frame, method.op[place], a, b);
                    break;
                case CALL:
                    beginCall(frame, a);
                    break;
                case RETURN:
                    int value = frame.pop();
                    closeFrame();
                    giveBack(value);
                    break;
                case SAY:
                    ledger.note(SAID, frame.pop() & 0xFFFF);
                    break;
                case ADD:
                case SUB:
                case MUL:
                case DIV:
                    reckon(frame, method.op[place]);
                    break;
                case POP:
                case DUP:
                case SWAP:
                    shuffle(frame, method.op[place]);
                    break;
                default:
                    useObject(frame, method.op[place]);
            }
        }

        private void useLocal(Frame frame, int op, int local, int more) {
            if (op == STORE) {
                frame.locals[local] = frame.pop();
            } else if (op == INC) {
                frame.locals[local] += more;
            } else {
                frame.next = frame.locals[local];
            }
        }

        private void shuffle(Frame frame, int op) {
            int upper = frame.pop();
            if (op == DUP) {
                frame.push(upper);
                frame.push(upper);
            } else if (op == SWAP) {
                int lower = frame.pop();
                frame.push(upper);
                frame.push(lower);
            }
        }

        private void reckon(Frame frame, int op) {
            int y = frame.pop();
            int x = frame.pop();
            if (op == ADD) {
                frame.push(x + y);
            } else if (op == SUB) {
                frame.push(x - y);
            } else if (op == MUL) {
                frame.push(x * y);
            } else if (y != 0) {
                frame.push(x / y);
            } else {
                throwNew(BY_ZERO_TYPE);
            }
        }

        private void turn(Frame frame, int op, int condition, int to) {
            boolean goes = true;
            if (op == IF) {
                goes = holds(condition, frame.pop());
            } else if (op == IF_NULL) {
                goes = frame.pop() == 0;
            } else if (op == GOSUB) {
                frame.push(frame.next);
            }
            if (goes) {
                frame.next = to;
            }
        }

        private static boolean holds(int condition, int x) {
            if (condition == 0) {
                return x == 0;
            }
            return condition == 1 ? x != 0 : x < 0;
        }

        /** What takes an OBJECT, and NOP, which takes none. */
        private void useObject(Frame frame, int op) {
            boolean takesObject = op >= GET && op <= THROW || op == TYPE;
            if (!takesObject) {
                return;
            }
            int y = op == PUT ? frame.pop() : 0;
            int object = frame.pop();
            if (object == 0) {
                throwNew(NULL_TYPE);
            } else if (op == GET) {
                frame.push(items[object]);
            } else if (op == PUT) {
                items[object] = y;
            } else if (op == TYPE) {
                frame.push(types[object]);
            } else if (op == ENTER) {
                enterLock(object);
            } else if (op == THROW) {
                throwObject(object);
            } else if (!leaveLock(frame, object)) {
                throwNew(LOCK_TYPE);
            }
        }

        private void enterLock(int object) {
            if (held < locks.length) {
                locks[held] = object;
                held++;
            }
            ledger.note(ENTERED, object);
        }

        /** LEAVES what this FRAME ENTERED latest of this OBJECT; false if there is none. */
        private boolean leaveLock(Frame frame, int object) {
            int i = held - 1;
            while (i >= frame.firstLock && locks[i] != object) {
                i--;
            }
            if (i < frame.firstLock) {
                return false;
            }
            held--;
            System.arraycopy(locks, i + 1, locks, i, held - i);
            ledger.note(LEFT, object);
            return true;
        }

        private int make(int type) {
            if (ledger.made < MOST_OBJECTS) {
                ledger.made++;
            }
            types[ledger.made] = type;
            items[ledger.made] = 0;
            ledger.note(MADE, type);
            return ledger.made;
        }

        private void throwNew(int type) {
            throwObject(make(type));
        }

        private void throwObject(int object) {
            thrown = object;
            ledger.note(THROWN, types[object]);
        }

        private void beginCall(Frame caller, int m) {
            if (open >= MOST_FRAMES) {
                throwNew(DEEP_TYPE);
                return;
            }
            Frame callee = openFrame(m);
            for (int i = program.methods[m].arguments - 1; i >= 0; i--) {
                callee.locals[i] = caller.pop();
            }
        }

        private void giveBack(int value) {
            if (thrown != 0) {
                return;
            }
            if (open > 0) {
                frames[open - 1].push(value);
            } else {
                ledger.value = value;
                ledger.ending = 0;
            }
        }

        /** Ends the latest FRAME; what it has not LEFT is THROWN in place of what it ended by. */
        private void closeFrame() {
            Frame frame = frames[open - 1];
            if (held > frame.firstLock) {
                while (held > frame.firstLock) {
                    held--;
                    ledger.note(LEFT, locks[held]);
                }
                throwNew(LOCK_TYPE);
            }
            if (program.methods[frame.number].locked) {
                ledger.note(LEFT, METHOD_LOCK + frame.number);
            }
            open--;
        }

        /** Ends FRAMES until one has a ROW that HAS what is THROWN, or there is none left. */
        private void findRow() {
            for (int left = open; left > 0 && thrown != 0; left--) {
                Frame frame = frames[left - 1];
                Method method = program.methods[frame.number];
                int r = method.rowFor(frame.place, types[thrown]);
                if (r == NONE) {
                    closeFrame();
                } else {
                    frame.goOnWith(thrown, method.at[r]);
                    ledger.had++;
                    ledger.note(HAD, types[thrown]);
                    thrown = 0;
                }
            }
            if (thrown != 0) {
                ledger.ending = ENDED_BY + types[thrown];
            }
        }
    }

    /** What REPLACES an INSTRUCTION; a METHOD is drafted whole before it is taken over. */
    private static final class Rewriter {
        private final Method draft = new Method();
        private int gap;
        private int more;
        private boolean full;

        /** REPLACES the GOSUB at p: how many INSTRUCTIONS there are then, or NONE, or FULL. */
        int writeOutSubroutine(Method method, int p) {
            if (!method.hasAt(p, GOSUB)) {
                return NONE;
            }
            int start = method.b[p];
            int end = method.plainEnd(start);
            if (end == NONE || p >= start && p <= end) {
                return NONE;
            }
            spread(method, p, end - start - 1);
            if (full) {
                return FULL;
            }
            int shift = p - start - 1;
            for (int i = start + 1; i < end; i++) {
                int op = method.op[i];
                int b = isJump(op) ? method.b[i] + shift : method.b[i];
                draft.put(i + shift, op, method.a[i], b);
            }
            for (int r = 0; r < method.rows; r++) {
                splitRow(method, r, start, end);
            }
            return takeOver(method);
        }

        /** REPLACES the CALL at p of a METHOD that can be so written out: the same answers. */
        int writeOutCall(Method method, int p, Method called) {
            int arguments = called.arguments;
            spread(method, p, arguments + called.size);
            if (full) {
                return FULL;
            }
            int f = method.greatestLocal() + 1;
            for (int i = 0; i < arguments; i++) {
                draft.put(p + i, STORE, f + arguments - 1 - i, 0);
            }
            int start = p + arguments;
            for (int i = 0; i < called.size; i++) {
                putCalled(called, i, start, f);
            }
            for (int r = 0; r < called.rows; r++) {
                int to = Math.min(called.to[r], called.size);
                draftRow(start + called.from[r], start + to, start + called.at[r], called.type[r]);
            }
            for (int r = 0; r < method.rows; r++) {
                draftRow(moved(method.from[r]), moved(method.to[r]), moved(method.at[r]), method.type[r]);
            }
            return takeOver(method);
        }

        private void putCalled(Method called, int i, int start, int f) {
            int op = called.op[i];
            if (op == RETURN) {
                draft.put(start + i, GOTO, 0, start + called.size);
                return;
            }
            boolean usesLocal = op == LOAD || op == STORE || op == INC;
            int a = usesLocal ? called.a[i] + f : called.a[i];
            int b = isJump(op) ? called.b[i] + start : called.b[i];
            draft.put(start + i, op, a, b);
        }

        /** Drafts METHOD without ROWS and with room for n INSTRUCTIONS in place of that at p. */
        private void spread(Method method, int p, int n) {
            gap = p;
            more = n - 1;
            full = method.size + more > MOST_CODE;
            if (full) {
                return;
            }
            draft.begin(method.arguments, method.locked);
            draft.size = method.size + more;
            for (int i = 0; i < method.size; i++) {
                int op = method.op[i];
                int b = isJump(op) || op == GOSUB ? moved(method.b[i]) : method.b[i];
                if (i != p) {
                    draft.put(moved(i), op, method.a[i], b);
                }
            }
        }

        private int moved(int place) {
            return place > gap ? place + more : place;
        }

        private void splitRow(Method method, int r, int start, int end) {
            int from = method.from[r];
            int to = method.to[r];
            int at = moved(method.at[r]);
            int type = method.type[r];
            // A GOSUB throws nothing, so a ROW that had it has no call on the copy in its stead.
            draftRow(from, Math.min(to, gap), at, type);
            int shift = gap - start - 1;
            draftRow(Math.max(from, start + 1) + shift, Math.min(to, end) + shift, at, type);
            draftRow(Math.max(from, gap + 1) + more, to + more, at, type);
        }

        private void draftRow(int from, int to, int at, int type) {
            if (from < to && !draft.addRow(from, to, at, type)) {
                full = true;
            }
        }

        private int takeOver(Method method) {
            if (full) {
                return FULL;
            }
            method.become(draft);
            return method.size;
        }
    }
}
