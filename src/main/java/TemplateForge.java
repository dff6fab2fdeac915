import java.util.Arrays;

/**
 * A forge of templates: METHODS for a machine with a PILE are looked over, run, and, where they are hot, put into
 * CODE for a machine with registers.
 *
 * <p>There is one executor only. A METHOD that was looked over rightly has its plain PARTS, the templates of its
 * INSTRUCTIONS with nothing KNOWN; a call by INSTRUCTIONS runs these. Both kinds of PARTS keep LOCALS and PILE in the
 * same registers, so that a GUARD that fails needs to change nothing but the PARTS that the call goes on in.
 */
public final class TemplateForge {
    public static final int NONE = -1, BAD = -2, STATE = -3, FULL = -4;

    private static final int LEAST_INT = -2147483648;

    private static final int METHODS = 8, INSTRUCTIONS = 60, MOST_ARGS = 3, MOST_LOCALS = 6, PILE = 8;
    private static final int FIELDS = 8, ROWS = 4, ROW_ITEMS = 20;
    private static final int RUNS = 80, STEPS = 1500, OPEN_CALLS = 16, HOT = 3;

    private static final int PUSH = 0, LOAD = 1, STORE = 2, ADD = 3, SAME = 8, JUMP = 9, WHEN = 10, CALL = 11;
    private static final int RET = 12, FIELD = 13, KEEP = 14, NEW = 15, GET = 16, SET = 17, DUP = 18, POP = 19;
    private static final int OPS = 20;
    /** What each op takes from the PILE and lays there; of CALL the ARGS of its METHOD are taken. */
    private static final int[] TAKES = {0, 0, 1, 2, 2, 2, 2, 2, 2, 0, 1, 0, 1, 0, 1, 1, 1, 2, 1, 1};
    private static final int[] LAYS = {1, 1, 0, 1, 1, 1, 1, 1, 1, 0, 0, 1, 0, 1, 0, 0, 1, 0, 2, 0};

    private static final int P_LI = 0, P_MOVE = 1, P_ADD = 2, P_SUB = 3, P_MUL = 4, P_DIV = 5, P_LESS = 6, P_SAME = 7;
    private static final int P_JMP = 8, P_JZ = 9, P_CALL = 10, P_RET = 11, P_FLD = 12, P_STF = 13, P_NEW = 14;
    private static final int P_GET = 15, P_SET = 16, P_GARG = 17, P_GFLD = 18;
    /** A PART is five cells in a row: op, d, a, b, the INSTRUCTION it belongs to. */
    private static final int CELLS = 5;

    private static final int PILE_AT = 7, REGISTERS = PILE_AT + PILE, LAST_REGISTER = REGISTERS - 1;
    /** What a METHOD may assume, in one numbering: its ARGS, then all FIELDS. */
    private static final int THINGS = MOST_ARGS + FIELDS;
    /** The GUARDS ahead of all, and of each INSTRUCTION: PILE laid, its PART, GUARDS, PILE laid for a TARGET. */
    private static final int MOST_PARTS = THINGS + INSTRUCTIONS * (PILE + 1 + FIELDS + PILE);
    /** Between two STEPS a call goes forward only: far fewer than 1502 times all PARTS are gone through in a run. */
    private static final int TURNS = 4000000;

    private static final int TOO_LITTLE = 1, TOO_MUCH = 2, OTHER_DEPTH = 3, NO_TARGET = 4, NO_NEXT = 5, BAD_X = 6;
    private static final int ZERO = 1, NULL = 2, INDEX = 3, NEGATIVE = 4, ROOM = 5, DEEP = 6;
    private static final int RETURNED = 0, TRAPPED = 1, SPENT = 3, GOING = 4;

    private final Book book;
    private final Data data;
    private final Looker looker;
    private final Machine machine;

    public TemplateForge() {
        Draft draft = new Draft();
        book = new Book();
        data = new Data();
        looker = new Looker(book, draft);
        machine = new Machine(book, data, draft);
    }

    // ---- programs

    public int method(int args, int locals) {
        if (args < 0 || args > MOST_ARGS || locals < args || locals > MOST_LOCALS) {
            return BAD;
        }
        return book.tell(args, locals);
    }

    public int write(int method, int op, int x) {
        Program p = book.at(method);
        if (p == null || op < 0 || op >= OPS) {
            return BAD;
        }
        if (p.isRight()) {
            return STATE;
        }
        return p.append(op, x);
    }

    public int look(int method) {
        Program p = book.at(method);
        if (p == null) {
            return BAD;
        }
        if (p.isRight()) {
            return STATE;
        }
        return looker.goOver(p);
    }

    public int fault() {
        return looker.found;
    }

    // ---- data

    public int keep(int f, int v) {
        if (f < 0 || f >= FIELDS) {
            return LEAST_INT;
        }
        int was = data.valueOf(f);
        data.put(f, v);
        return was;
    }

    public int field(int f) {
        return f < 0 || f >= FIELDS ? LEAST_INT : data.valueOf(f);
    }

    public int lose(int r) {
        if (r < 0 || r >= ROWS) {
            return BAD;
        }
        int had = data.lengthOf(r);
        data.renew(r, NONE);
        return had;
    }

    public int size(int r) {
        return r < 0 || r >= ROWS ? BAD : data.lengthOf(r);
    }

    public int item(int r, int i) {
        return data.itemOf(r, i);
    }

    // ---- runs

    public int run(int method, int a, int b, int c) {
        if (book.at(method) == null) {
            return BAD;
        }
        if (!book.isRight()) {
            return STATE;
        }
        if (machine.tally.runs >= RUNS) {
            return FULL;
        }
        return machine.go(method, a, b, c);
    }

    public int answer() {
        return machine.tally.returned;
    }

    public int trap(int what) {
        return machine.tally.ofTrap(what);
    }

    // ---- code

    public int of(int method, int what) {
        Program p = book.at(method);
        return p == null ? BAD : tellOf(p, what);
    }

    public int part(int method, int i, int what) {
        Program p = book.at(method);
        return p == null || p.heat.latest == null ? LEAST_INT : p.heat.latest.cell(i, what);
    }

    public int varies(int method, int x) {
        Program p = book.at(method);
        boolean isArg = x >= 0 && x < MOST_ARGS, isField = x >= 10 && x < 10 + FIELDS;
        if (p == null || !isArg && !isField) {
            return BAD;
        }
        return p.heat.isVarying(isArg ? x : MOST_ARGS + x - 10) ? 1 : 0;
    }

    public int depth(int method, int i) {
        Program p = book.at(method);
        if (p == null || !p.has(i)) {
            return BAD;
        }
        return p.isRight() ? p.depthAt(i) : NONE;
    }

    public int count(int what) {
        Tally t = machine.tally;
        switch (what) {
            case 0:
                return book.told;
            case 1:
                return t.runs;
            case 2:
                return t.steps;
            case 3:
                return t.calls;
            case 4:
                return t.coded;
            case 5:
                return t.failed;
            default:
                return BAD;
        }
    }

    public long digest() {
        long h = data.mixedInto(17);
        h = machine.tally.mixedInto(h);
        for (int m = 0; m < book.told; m++) {
            Program p = book.at(m);
            if (p != null) {
                h = mixedWith(h, p);
            }
        }
        return h;
    }

    private static long mixedWith(long h, Program p) {
        for (int what = 0; what <= 5; what++) {
            h = 31 * h + tellOf(p, what);
        }
        return p.heat.latest == null ? h : p.heat.latest.mixedInto(h);
    }

    private static int tellOf(Program p, int what) {
        Heat heat = p.heat;
        switch (what) {
            case 0:
                return heat.hasCode ? 1 : 0;
            case 1:
                return heat.counted;
            case 2:
                return heat.made;
            case 3:
                return heat.failed;
            case 4:
                return heat.ran;
            case 5:
                return heat.latest == null ? 0 : heat.latest.parts();
            case 6:
                return p.length;
            case 7:
                return p.deepest;
            default:
                return BAD;
        }
    }

    /** One for the machine and the smith, so that what is taken as constant is what would come of it. */
    private static int reckoned(int partOp, int a, int b) {
        switch (partOp) {
            case P_ADD:
                return a + b;
            case P_SUB:
                return a - b;
            case P_MUL:
                return a * b;
            case P_DIV:
                return b == 0 ? 0 : a / b;
            case P_LESS:
                return a < b ? 1 : 0;
            default:
                return a == b ? 1 : 0;
        }
    }

    /** All METHODS told so far. */
    private static final class Book {
        private final Program[] programs = new Program[METHODS];
        int told;

        Program at(int m) {
            return m >= 0 && m < told && m < METHODS ? programs[m] : null;
        }

        int tell(int args, int locals) {
            if (told >= METHODS) {
                return FULL;
            }
            programs[told] = new Program(told, args, locals);
            told++;
            return told - 1;
        }

        boolean isRight() {
            for (int m = 0; m < told; m++) {
                Program p = at(m);
                if (p == null || !p.isRight()) {
                    return false;
                }
            }
            return true;
        }

        int taken(int op, int x) {
            if (op == CALL) {
                Program p = at(x);
                return p == null ? 0 : p.args;
            }
            return op >= 0 && op < OPS ? TAKES[op] : 0;
        }
    }

    /** A METHOD: its INSTRUCTIONS, and what looking it over told of it. */
    private static final class Program {
        final int number, args, locals;
        final Heat heat = new Heat();
        private final int[] ops = new int[INSTRUCTIONS];
        private final int[] xs = new int[INSTRUCTIONS];
        private final int[] depths = new int[INSTRUCTIONS];
        int length;
        /** NONE as long as it was not looked over rightly. */
        int deepest = NONE;
        Code plain;

        Program(int number, int args, int locals) {
            this.number = number;
            this.args = args;
            this.locals = locals;
        }

        boolean isRight() {
            return deepest != NONE;
        }

        boolean has(int i) {
            return i >= 0 && i < length && i < INSTRUCTIONS;
        }

        int append(int op, int x) {
            if (length >= INSTRUCTIONS) {
                return FULL;
            }
            ops[length] = op;
            xs[length] = x;
            length++;
            return length - 1;
        }

        int opAt(int i) {
            return has(i) ? ops[i] : NONE;
        }

        int xAt(int i) {
            return has(i) ? xs[i] : 0;
        }

        int depthAt(int i) {
            return has(i) ? depths[i] : NONE;
        }

        boolean isDead(int i) {
            return !has(i) || depths[i] == NONE;
        }

        boolean goesOnAt(int i) {
            int op = opAt(i);
            return !isDead(i) && op != JUMP && op != RET;
        }

        void forgetDepths() {
            Arrays.fill(depths, NONE);
        }

        void comeTo(int i, int depth) {
            if (has(i)) {
                depths[i] = depth;
            }
        }
    }

    /** How hot a METHOD is: what it counted and remembers, and what came of it. */
    private static final class Heat {
        boolean hasCode;
        /** It stays for those who ask after it was thrown away. */
        Code latest;
        int counted, made, failed, ran;
        private final int[] first = new int[THINGS];
        private final boolean[] same = new boolean[THINGS];
        private final boolean[] varying = new boolean[THINGS];

        boolean isHot() {
            return !hasCode && counted >= HOT;
        }

        void remember(Frame frame, Data data) {
            for (int k = 0; k < THINGS; k++) {
                int v = k < MOST_ARGS ? frame.valueOf(k) : data.valueOf(k - MOST_ARGS);
                if (counted == 0) {
                    first[k] = v;
                    same[k] = true;
                } else if (first[k] != v) {
                    same[k] = false;
                }
            }
            counted++;
        }

        void take(Code code) {
            latest = code;
            hasCode = true;
            made = code.making;
        }

        void throwAway() {
            hasCode = false;
            counted = 0;
        }

        void markVarying(int k) {
            if (k >= 0 && k < THINGS) {
                varying[k] = true;
            }
        }

        boolean isVarying(int k) {
            return k >= 0 && k < THINGS && varying[k];
        }

        boolean wasAlways(int k) {
            return counted > 0 && k >= 0 && k < THINGS && same[k] && !varying[k];
        }

        int valueOf(int k) {
            return k >= 0 && k < THINGS ? first[k] : 0;
        }
    }

    /** PARTS, and the first one of each INSTRUCTION. */
    private static final class Code {
        /** Which CODE of its METHOD it is, from 1; 0 for the plain PARTS. */
        final int making;
        /** So many GUARDS are ahead of all INSTRUCTIONS; the others stand behind a CALL. */
        final int heads;
        final int[] cells;
        private final int[] starts;

        Code(int making, int heads, int[] cells, int[] starts) {
            this.making = making;
            this.heads = heads;
            this.cells = cells;
            this.starts = starts;
        }

        int parts() {
            return cells.length / CELLS;
        }

        int cell(int i, int what) {
            return i >= 0 && i < parts() && what >= 0 && what < CELLS ? cells[CELLS * i + what] : LEAST_INT;
        }

        int startOf(int instruction) {
            return instruction >= 0 && instruction < starts.length ? starts[instruction] : parts();
        }

        long mixedInto(long h) {
            for (int i = 0; i < cells.length; i++) {
                h = 31 * h + cells[i];
            }
            return h;
        }
    }

    /** Where PARTS are put together; one for all, since only what comes of it is kept. */
    private static final class Draft {
        private final int[] cells = new int[CELLS * MOST_PARTS];
        private final int[] starts = new int[INSTRUCTIONS];
        private int parts;

        void clear() {
            parts = 0;
            Arrays.fill(starts, 0);
        }

        int parts() {
            return parts;
        }

        void begin(int instruction) {
            if (instruction >= 0 && instruction < INSTRUCTIONS) {
                starts[instruction] = parts;
            }
        }

        void add(int op, int d, int a, int b, int instruction) {
            int at = CELLS * parts;
            if (at < 0 || at + CELLS > cells.length) {
                return;
            }
            cells[at] = op;
            cells[at + 1] = d;
            cells[at + 2] = a;
            cells[at + 3] = b;
            cells[at + 4] = instruction;
            parts++;
        }

        /** The PART that an INSTRUCTION is when nothing is KNOWN. */
        void addTemplate(Program p, int i) {
            int op = p.opAt(i), x = p.xAt(i), top = PILE_AT + p.depthAt(i);
            switch (op) {
                case PUSH:
                    add(P_LI, top, x, 0, i);
                    break;
                case LOAD:
                    add(P_MOVE, top, x, 0, i);
                    break;
                case STORE:
                    add(P_MOVE, x, top - 1, 0, i);
                    break;
                case JUMP:
                    add(P_JMP, x, 0, 0, i);
                    break;
                case WHEN:
                    add(P_JZ, x, top - 1, 0, i);
                    break;
                case CALL:
                    // what it returns lies on top at the next one, where the first ARG lay
                    add(P_CALL, PILE_AT + p.depthAt(i + 1) - 1, x, 0, i);
                    break;
                case RET:
                    add(P_RET, 0, top - 1, 0, i);
                    break;
                case POP:
                    break;
                case DUP:
                    add(P_MOVE, top, top - 1, 0, i);
                    break;
                default:
                    addReckoning(op, x, top, i);
                    break;
            }
        }

        private void addReckoning(int op, int x, int top, int i) {
            switch (op) {
                case FIELD:
                    add(P_FLD, top, x, 0, i);
                    break;
                case KEEP:
                    add(P_STF, x, top - 1, 0, i);
                    break;
                case NEW:
                    add(P_NEW, x, top - 1, 0, i);
                    break;
                case GET:
                    add(P_GET, top - 1, x, top - 1, i);
                    break;
                case SET:
                    add(P_SET, x, top - 2, top - 1, i);
                    break;
                default:
                    add(op - ADD + P_ADD, top - 2, top - 2, top - 1, i);
                    break;
            }
        }

        Code finish(int making, int heads, int length) {
            int[] kept = Arrays.copyOf(cells, CELLS * Math.max(parts, 0));
            return new Code(making, heads, kept, Arrays.copyOf(starts, Math.max(length, 0)));
        }
    }

    /** Looks METHODS over. */
    private static final class Looker {
        private final Book book;
        private final Draft draft;
        private final boolean[] waiting = new boolean[INSTRUCTIONS];
        int found;

        Looker(Book book, Draft draft) {
            this.book = book;
            this.draft = draft;
        }

        /** What look() answers of a METHOD that was not looked over rightly yet. */
        int goOver(Program p) {
            p.forgetDepths();
            for (int i = 0; i < INSTRUCTIONS; i++) {
                waiting[i] = false;
            }
            found = p.length == 0 ? NO_NEXT : 0;
            if (found != 0) {
                return -100;
            }
            comes(p, 0, 0);
            for (int gone = 0; gone < INSTRUCTIONS; gone++) {
                int i = leastWaiting();
                if (i == NONE) {
                    break;
                }
                waiting[i] = false;
                found = faultAt(p, i);
                if (found != 0) {
                    return -100 - i;
                }
            }
            p.deepest = greatestDepth(p);
            p.plain = plainCode(p);
            return p.deepest;
        }

        private int leastWaiting() {
            for (int i = 0; i < INSTRUCTIONS; i++) {
                if (waiting[i]) {
                    return i;
                }
            }
            return NONE;
        }

        private int faultAt(Program p, int i) {
            int op = p.opAt(i), x = p.xAt(i), taken = book.taken(op, x);
            if (op < 0 || op >= OPS || !isRightX(p, op, x)) {
                return BAD_X;
            }
            if (p.depthAt(i) < taken) {
                return TOO_LITTLE;
            }
            int left = p.depthAt(i) - taken + LAYS[op];
            if (left > PILE) {
                return TOO_MUCH;
            }
            if (op == JUMP || op == WHEN) {
                if (!p.has(x)) {
                    return NO_TARGET;
                }
                if (!comes(p, x, left)) {
                    return OTHER_DEPTH;
                }
            }
            if (op == JUMP || op == RET) {
                return 0;
            }
            if (!p.has(i + 1)) {
                return NO_NEXT;
            }
            return comes(p, i + 1, left) ? 0 : OTHER_DEPTH;
        }

        private boolean isRightX(Program p, int op, int x) {
            switch (op) {
                case LOAD:
                case STORE:
                    return x >= 0 && x < p.locals;
                case CALL:
                    return book.at(x) != null;
                case FIELD:
                case KEEP:
                    return x >= 0 && x < FIELDS;
                case NEW:
                case GET:
                case SET:
                    return x >= 0 && x < ROWS;
                default:
                    return true;
            }
        }

        /** Whether the place may be come to with that depth; it waits, if it is the first time. */
        private boolean comes(Program p, int i, int depth) {
            if (p.isDead(i) && i >= 0 && i < INSTRUCTIONS) {
                p.comeTo(i, depth);
                waiting[i] = true;
            }
            return p.depthAt(i) == depth;
        }

        private int greatestDepth(Program p) {
            int most = 0;
            for (int i = 0; i < p.length; i++) {
                most = Math.max(most, p.depthAt(i));
            }
            return most;
        }

        private Code plainCode(Program p) {
            draft.clear();
            for (int i = 0; i < p.length; i++) {
                draft.begin(i);
                if (!p.isDead(i)) {
                    draft.addTemplate(p, i);
                }
            }
            return draft.finish(0, 0, p.length);
        }
    }

    /** Puts METHODS into CODE. */
    private static final class Smith {
        private final Draft draft;
        private final boolean[] known = new boolean[REGISTERS];
        private final int[] worth = new int[REGISTERS];
        private final boolean[] target = new boolean[INSTRUCTIONS];
        private final boolean[] assumed = new boolean[THINGS];

        Smith(Draft draft) {
            this.draft = draft;
        }

        Code forge(Program p) {
            draft.clear();
            findTargets(p);
            assume(p);
            addGuards(p.heat, 0, 0);
            int heads = draft.parts();
            for (int i = 0; i < p.length; i++) {
                if (p.isDead(i)) {
                    continue;
                }
                if (i == 0 || target[i]) {
                    if (i > 0 && p.goesOnAt(i - 1)) {
                        lay(PILE_AT, LAST_REGISTER, i - 1);
                    }
                    knowArgsAlone(p.heat);
                }
                draft.begin(i);
                if (wantsTemplate(p, i)) {
                    draft.addTemplate(p, i);
                }
                if (p.opAt(i) == CALL) {
                    addGuards(p.heat, MOST_ARGS, i);
                }
            }
            return draft.finish(p.heat.made + 1, heads, p.length);
        }

        private void findTargets(Program p) {
            for (int i = 0; i < INSTRUCTIONS; i++) {
                target[i] = false;
            }
            for (int i = 0; i < p.length; i++) {
                int op = p.opAt(i), x = p.xAt(i);
                if ((op == JUMP || op == WHEN) && !p.isDead(i) && x >= 0 && x < INSTRUCTIONS) {
                    target[x] = true;
                }
            }
        }

        private void assume(Program p) {
            for (int k = 0; k < THINGS; k++) {
                boolean isArg = k < MOST_ARGS;
                int x = isArg ? k : k - MOST_ARGS;
                assumed[k] = (!isArg || k < p.args) && p.heat.wasAlways(k)
                        && uses(p, isArg ? LOAD : FIELD, x) && !uses(p, isArg ? STORE : KEEP, x);
            }
        }

        private boolean uses(Program p, int op, int x) {
            for (int i = 0; i < p.length; i++) {
                if (p.opAt(i) == op && p.xAt(i) == x && !p.isDead(i)) {
                    return true;
                }
            }
            return false;
        }

        private void addGuards(Heat heat, int from, int i) {
            for (int k = Math.max(from, 0); k < THINGS; k++) {
                if (assumed[k]) {
                    boolean isArg = k < MOST_ARGS;
                    draft.add(isArg ? P_GARG : P_GFLD, isArg ? k : k - MOST_ARGS, heat.valueOf(k), 0, i);
                }
            }
        }

        private void knowArgsAlone(Heat heat) {
            for (int r = 0; r < REGISTERS; r++) {
                known[r] = false;
            }
            for (int k = 0; k < MOST_ARGS; k++) {
                if (assumed[k]) {
                    know(k, heat.valueOf(k));
                }
            }
        }

        /** Takes what the INSTRUCTION asks for as constant, or lays what its template is to read: then it is wanted. */
        private boolean wantsTemplate(Program p, int i) {
            int op = p.opAt(i), x = p.xAt(i), top = PILE_AT + p.depthAt(i);
            switch (op) {
                case PUSH:
                    know(top, x);
                    return false;
                case LOAD:
                    return !isCopyKnown(x, top);
                case DUP:
                    return !isCopyKnown(top - 1, top);
                case STORE:
                    return !isStoredKnown(x, top - 1, i);
                case POP:
                    forget(top - 1);
                    return false;
                case WHEN:
                    return !isWaySure(x, top - 1, i);
                case JUMP:
                case CALL:
                    lay(PILE_AT, LAST_REGISTER, i);
                    return true;
                case FIELD:
                    return !isFieldKnown(p.heat, x, top);
                case RET:
                case KEEP:
                case NEW:
                case GET:
                    lay(top - 1, top - 1, i);
                    return true;
                case SET:
                    lay(top - 2, top - 1, i);
                    return true;
                default:
                    return !isResultKnown(op - ADD + P_ADD, top - 2, top - 1, i);
            }
        }

        private boolean isCopyKnown(int from, int to) {
            if (isKnown(from)) {
                know(to, worthOf(from));
                return true;
            }
            return false;
        }

        private boolean isStoredKnown(int local, int from, int i) {
            if (isKnown(from)) {
                draft.add(P_LI, local, worthOf(from), 0, i);
                know(local, worthOf(from));
                forget(from);
                return true;
            }
            forget(local);
            return false;
        }

        private boolean isWaySure(int x, int from, int i) {
            if (!isKnown(from)) {
                lay(PILE_AT, LAST_REGISTER, i);
                return false;
            }
            forget(from);
            if (worthOf(from) == 0) {
                lay(PILE_AT, LAST_REGISTER, i);
                draft.add(P_JMP, x, 0, 0, i);
            }
            return true;
        }

        private boolean isFieldKnown(Heat heat, int x, int to) {
            int k = MOST_ARGS + x;
            if (k >= MOST_ARGS && k < THINGS && assumed[k]) {
                know(to, heat.valueOf(k));
                return true;
            }
            return false;
        }

        private boolean isResultKnown(int partOp, int a, int b, int i) {
            boolean wouldTrap = partOp == P_DIV && worthOf(b) == 0;
            if (isKnown(a) && isKnown(b) && !wouldTrap) {
                know(a, reckoned(partOp, worthOf(a), worthOf(b)));
                forget(b);
                return true;
            }
            lay(a, b, i);
            return false;
        }

        /** What is KNOWN of these registers goes into them, for the PARTS that are to read them. */
        private void lay(int from, int to, int i) {
            for (int r = Math.max(from, 0); r <= to && r < REGISTERS; r++) {
                if (known[r]) {
                    draft.add(P_LI, r, worth[r], 0, i);
                    known[r] = false;
                }
            }
        }

        private void know(int r, int v) {
            if (r >= 0 && r < REGISTERS) {
                known[r] = true;
                worth[r] = v;
            }
        }

        private void forget(int r) {
            if (r >= 0 && r < REGISTERS) {
                known[r] = false;
            }
        }

        private boolean isKnown(int r) {
            return r >= 0 && r < REGISTERS && known[r];
        }

        private int worthOf(int r) {
            return r >= 0 && r < REGISTERS ? worth[r] : 0;
        }
    }

    /** FIELDS and ROWS. */
    private static final class Data {
        private final int[] fields = new int[FIELDS];
        private final int[] lengths = new int[ROWS];
        private final int[] items = new int[ROWS * ROW_ITEMS];

        Data() {
            Arrays.fill(lengths, NONE);
        }

        int valueOf(int f) {
            return f >= 0 && f < FIELDS ? fields[f] : 0;
        }

        void put(int f, int v) {
            if (f >= 0 && f < FIELDS) {
                fields[f] = v;
            }
        }

        int lengthOf(int r) {
            return r >= 0 && r < ROWS ? lengths[r] : NONE;
        }

        /** A length of NONE loses the ROW. */
        void renew(int r, int length) {
            if (r >= 0 && r < ROWS && length >= NONE && length <= ROW_ITEMS) {
                lengths[r] = length;
                Arrays.fill(items, ROW_ITEMS * r, ROW_ITEMS * (r + 1), 0);
            }
        }

        int itemOf(int r, int i) {
            return i >= 0 && i < lengthOf(r) && i < ROW_ITEMS ? items[ROW_ITEMS * r + i] : 0;
        }

        void putItem(int r, int i, int v) {
            if (i >= 0 && i < lengthOf(r) && i < ROW_ITEMS) {
                items[ROW_ITEMS * r + i] = v;
            }
        }

        long mixedInto(long h) {
            for (int f = 0; f < FIELDS; f++) {
                h = 31 * h + valueOf(f);
            }
            for (int r = 0; r < ROWS; r++) {
                h = 31 * h + lengthOf(r);
                for (int i = 0; i < lengthOf(r); i++) {
                    h = 31 * h + itemOf(r, i);
                }
            }
            return h;
        }
    }

    /** An open call. */
    private static final class Frame {
        Program program;
        /** Its METHOD's CODE, an older one, or the plain PARTS. */
        Code code;
        int place;
        /** The register of the call that waits for what this one returns. */
        int into;
        private final int[] registers = new int[REGISTERS];

        void clear() {
            Arrays.fill(registers, 0);
        }

        int valueOf(int r) {
            return r >= 0 && r < REGISTERS ? registers[r] : 0;
        }

        void put(int r, int v) {
            if (r >= 0 && r < REGISTERS) {
                registers[r] = v;
            }
        }
    }

    /** What is told of the latest run, and how many there were. */
    private static final class Tally {
        int runs, steps, calls, coded, failed, returned;
        private final int[] trap = new int[4];

        void beginRun() {
            runs++;
            steps = 0;
            calls = 0;
            coded = 0;
            failed = 0;
            returned = 0;
            noteTrap(0, 0, 0, 0);
        }

        void noteTrap(int number, int method, int instruction, int open) {
            trap[0] = number;
            trap[1] = method;
            trap[2] = instruction;
            trap[3] = open;
        }

        int ofTrap(int what) {
            return what >= 0 && what < 4 ? trap[what] : BAD;
        }

        long mixedInto(long h) {
            h = 31 * h + returned;
            for (int what = 0; what < 4; what++) {
                h = 31 * h + trap[what];
            }
            return h;
        }
    }

    /** Runs METHODS. */
    private static final class Machine {
        private final Book book;
        private final Data data;
        private final Smith smith;
        final Tally tally = new Tally();
        private final Frame[] frames = new Frame[OPEN_CALLS];
        private final int[] handed = new int[MOST_ARGS];
        private int open, ending;
        /** The METHOD that is to begin with what is handed, NONE for none. */
        private int called, into;

        Machine(Book book, Data data, Draft draft) {
            this.book = book;
            this.data = data;
            smith = new Smith(draft);
            for (int i = 0; i < OPEN_CALLS; i++) {
                frames[i] = new Frame();
            }
        }

        /** What run() answers of a METHOD that may be run. */
        int go(int method, int a, int b, int c) {
            tally.beginRun();
            open = 0;
            ending = GOING;
            called = method;
            into = 0;
            handed[0] = a;
            handed[1] = b;
            handed[2] = c;
            for (int turns = 0; turns < TURNS && ending == GOING; turns++) {
                if (called == NONE) {
                    turn();
                } else {
                    begin();
                    choosePath();
                }
            }
            return ending == GOING ? SPENT : ending;
        }

        private void begin() {
            Program p = book.at(called);
            called = NONE;
            stepOn();
            if (ending != GOING) {
                return;
            }
            if (p == null || open < 0 || open >= OPEN_CALLS) {
                ending = SPENT;
                return;
            }
            Frame f = frames[open];
            open++;
            tally.calls++;
            f.program = p;
            f.code = p.plain;
            f.place = 0;
            f.into = into;
            f.clear();
            for (int k = 0; k < p.args && k < MOST_ARGS; k++) {
                f.put(k, handed[k]);
            }
        }

        /** CODE or INSTRUCTIONS, for the call that has just begun. */
        private void choosePath() {
            Frame f = latestFrame();
            if (ending != GOING || f == null || f.program == null) {
                return;
            }
            Heat heat = f.program.heat;
            if (heat.isHot()) {
                heat.take(smith.forge(f.program));
            }
            if (heat.hasCode) {
                f.code = heat.latest;
                heat.ran++;
                tally.coded++;
            } else {
                heat.remember(f, data);
            }
        }

        private Frame latestFrame() {
            return open > 0 && open <= OPEN_CALLS ? frames[open - 1] : null;
        }

        private void stepOn() {
            tally.steps++;
            if (tally.steps > STEPS) {
                ending = SPENT;
            }
        }

        private void turn() {
            Frame f = latestFrame();
            if (f == null || f.program == null || f.code == null || f.place < 0 || f.place >= f.code.parts()) {
                ending = SPENT;
                return;
            }
            int[] cells = f.code.cells;
            int at = CELLS * f.place;
            int op = cells[at], d = cells[at + 1], a = cells[at + 2], b = cells[at + 3], i = cells[at + 4];
            f.place++;
            switch (op) {
                case P_LI:
                    f.put(d, a);
                    break;
                case P_MOVE:
                    f.put(d, f.valueOf(a));
                    break;
                case P_JMP:
                    goTo(f, d, i);
                    break;
                case P_JZ:
                    if (f.valueOf(a) == 0) {
                        goTo(f, d, i);
                    }
                    break;
                case P_CALL:
                    call(f, a, d, i);
                    break;
                case P_RET:
                    giveBack(f, f.valueOf(a));
                    break;
                case P_GARG:
                    guard(f, d, f.valueOf(d) == a, i);
                    break;
                case P_GFLD:
                    guard(f, MOST_ARGS + d, data.valueOf(d) == a, i);
                    break;
                case P_FLD:
                    f.put(d, data.valueOf(a));
                    break;
                case P_STF:
                    data.put(d, f.valueOf(a));
                    break;
                default:
                    turnThatMayTrap(f, op, d, a, b, i);
                    break;
            }
        }

        private void turnThatMayTrap(Frame f, int op, int d, int a, int b, int i) {
            switch (op) {
                case P_NEW:
                    newRow(f, d, f.valueOf(a), i);
                    break;
                case P_GET:
                    if (isThere(f, a, f.valueOf(b), i)) {
                        f.put(d, data.itemOf(a, f.valueOf(b)));
                    }
                    break;
                case P_SET:
                    if (isThere(f, d, f.valueOf(a), i)) {
                        data.putItem(d, f.valueOf(a), f.valueOf(b));
                    }
                    break;
                default:
                    if (op == P_DIV && f.valueOf(b) == 0) {
                        endByTrap(f, ZERO, i);
                    } else {
                        f.put(d, reckoned(op, f.valueOf(a), f.valueOf(b)));
                    }
                    break;
            }
        }

        private void goTo(Frame f, int instruction, int from) {
            if (instruction <= from) {
                stepOn();
            }
            f.place = f.code.startOf(instruction);
        }

        private void call(Frame f, int method, int register, int i) {
            if (open >= OPEN_CALLS) {
                endByTrap(f, DEEP, i);
                return;
            }
            called = method;
            into = register;
            for (int k = 0; k < MOST_ARGS; k++) {
                handed[k] = f.valueOf(register + k);
            }
        }

        private void giveBack(Frame f, int v) {
            open--;
            Frame caller = latestFrame();
            if (caller == null) {
                tally.returned = v;
                ending = RETURNED;
            } else {
                caller.put(f.into, v);
            }
        }

        private void guard(Frame f, int thing, boolean holds, int i) {
            if (holds) {
                return;
            }
            Heat heat = f.program.heat;
            Code plain = f.program.plain;
            tally.failed++;
            heat.failed++;
            heat.markVarying(thing);
            if (heat.hasCode && heat.made == f.code.making) {
                heat.throwAway();
            }
            boolean isAhead = f.place <= f.code.heads;
            f.code = plain;
            f.place = plain == null || isAhead ? 0 : plain.startOf(i + 1);
        }

        private void newRow(Frame f, int r, int n, int i) {
            if (n < 0) {
                endByTrap(f, NEGATIVE, i);
            } else if (n > ROW_ITEMS) {
                endByTrap(f, ROOM, i);
            } else {
                data.renew(r, n);
            }
        }

        private boolean isThere(Frame f, int r, int index, int i) {
            if (data.lengthOf(r) == NONE) {
                endByTrap(f, NULL, i);
                return false;
            }
            if (index < 0 || index >= data.lengthOf(r)) {
                endByTrap(f, INDEX, i);
                return false;
            }
            return true;
        }

        private void endByTrap(Frame f, int number, int i) {
            ending = TRAPPED;
            tally.noteTrap(number, f.program.number, i, open);
        }
    }
}
