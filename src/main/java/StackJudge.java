import java.util.Arrays;

/** A program for a small machine with a stack, judged by the heights of its stack, then done. */
public final class StackJudge {
    public static final int REFUSED = -1, NONE = -2, FULL = -3;

    private static final int MOST_INSTRUCTIONS = 64;
    private static final int MOST_ON_STACK = 8;
    private static final int LOCALS = 4;
    private static final int MOST_ARGUMENTS = 3;
    private static final int MOST_STEPS = 300;
    private static final int MOST_PAIRS = 20;
    private static final int CHECKED_EMPTY = 64;
    private static final long NO_PAIR = 1L << 40;

    private final Program program;
    private final Ways ways;
    private final Machine machine;

    public StackJudge(int kind) {
        program = new Program(kind & 3);
        ways = new Ways();
        machine = new Machine();
    }

    public int code(int op, int n) {
        return program.append(op, n) ? program.size - 1 : FULL;
    }

    public int clear() {
        int before = program.size;
        program.keepFirst(0);
        return before;
    }

    public int drop() {
        if (program.size == 0) {
            return NONE;
        }
        program.keepFirst(program.size - 1);
        return program.size;
    }

    public int check() {
        if (program.size == 0) {
            return CHECKED_EMPTY;
        }
        ways.follow(program);
        return ways.firstWrong(program);
    }

    public int heights(int k) {
        if (!program.has(k)) {
            return REFUSED;
        }
        ways.follow(program);
        return read(ways.reached, k);
    }

    public int call(int a, int b, int c) {
        if (check() != NONE) {
            return NONE;
        }
        return machine.run(program, a, b, c);
    }

    public int result() {
        return machine.latestResult;
    }

    public int steps() {
        return machine.stepCount;
    }

    public int pairs() {
        return machine.pairCount;
    }

    public long pair(int k, int what) {
        if (k < 0 || k >= machine.pairCount) {
            return NO_PAIR;
        }
        switch (what) {
            case 0:
                return read(machine.keys, k);
            case 1:
                return read(machine.values, k);
            default:
                return NO_PAIR;
        }
    }

    // Rows are touched only through read and write, so that no index goes unlooked at,
    // even where a GOOD program could not bring a wrong one.
    private static int read(int[] row, int index) {
        return index >= 0 && index < row.length ? row[index] : 0;
    }

    private static void write(int[] row, int index, int value) {
        if (index >= 0 && index < row.length) {
            row[index] = value;
        }
    }

    /** The kinds of a program, by number. */
    private static final class Kind {
        static final int MAP = 0, JOIN = 1, FOLD = 2, END = 3;
    }

    /** The ops by number, with what each needs on the stack and by how much the stack grows. */
    private static final class Op {
        static final int NUMBER = 0, ARGUMENT = 1, LOCAL = 2, STORE = 3, COPY = 4, SWAP = 5, POP = 6;
        static final int PLUS = 7, MINUS = 8, TIMES = 9, DIVIDE = 10, REST = 11, LESS = 12, SAME = 13;
        static final int GO = 14, GO_IF_ZERO = 15, EMIT = 16, FINISH = 17, FINISH_WITHOUT = 18;

        // FINISH stands here with what it needs in all kinds but MAP.
        private static final int[] NEEDS = {0, 0, 0, 1, 1, 2, 1, 2, 2, 2, 2, 2, 2, 2, 0, 1, 2, 1, 0};
        private static final int[] GROWTH =
            {1, 1, 1, -1, 1, 0, -1, -1, -1, -1, -1, -1, -1, -1, 0, -1, -2, 0, 0};

        static boolean isOf(int op, int kind) {
            if (op == EMIT) {
                return kind == Kind.MAP;
            }
            if (op == FINISH_WITHOUT) {
                return kind == Kind.END;
            }
            return op >= NUMBER && op <= FINISH;
        }

        static int needs(int op, int kind) {
            return op == FINISH && kind == Kind.MAP ? 0 : read(NEEDS, op);
        }

        static int growth(int op) {
            return read(GROWTH, op);
        }

        static boolean jumps(int op) {
            return op == GO || op == GO_IF_ZERO;
        }

        static boolean hasNext(int op) {
            return op != GO && op != FINISH && op != FINISH_WITHOUT;
        }
    }

    /** The row of instructions, and what can be said of one without the ways to it. */
    private static final class Program {
        private static final int ANY = -1;

        final int kind;
        int size;
        private final int argumentCount;
        private final int[] ops = new int[MOST_INSTRUCTIONS];
        private final int[] ns = new int[MOST_INSTRUCTIONS];

        Program(int kind) {
            this.kind = kind;
            argumentCount = kind == Kind.JOIN || kind == Kind.FOLD ? 3 : 2;
        }

        boolean append(int op, int n) {
            if (size >= MOST_INSTRUCTIONS) {
                return false;
            }
            write(ops, size, op);
            write(ns, size, n);
            size++;
            return true;
        }

        void keepFirst(int count) {
            size = count;
        }

        boolean has(int k) {
            return k >= 0 && k < size;
        }

        int opAt(int k) {
            return read(ops, k);
        }

        int nAt(int k) {
            return read(ns, k);
        }

        boolean isWellFormed(int k) {
            int op = read(ops, k);
            int n = read(ns, k);
            int limit = limitOfN(op);
            return Op.isOf(op, kind) && (limit == ANY || (n >= 0 && n < limit));
        }

        private int limitOfN(int op) {
            switch (op) {
                case Op.ARGUMENT:
                    return argumentCount;
                case Op.LOCAL:
                case Op.STORE:
                    return LOCALS;
                case Op.GO:
                case Op.GO_IF_ZERO:
                    return size;
                default:
                    return ANY;
            }
        }

        /** Whether k is not WRONG, as far as a way that comes to it with this height can tell. */
        boolean canBeDone(int k, int height) {
            int op = opAt(k);
            if (!isWellFormed(k) || (Op.hasNext(op) && !has(k + 1))) {
                return false;
            }
            return height >= Op.needs(op, kind) && height + Op.growth(op) <= MOST_ON_STACK;
        }
    }

    /** All the heights with which each instruction can be reached. */
    private static final class Ways {
        private static final int HEIGHTS = MOST_ON_STACK + 1;

        final int[] reached = new int[MOST_INSTRUCTIONS];
        // Each instruction waits at most once with each height, so the row can't overflow.
        private final int[] waiting = new int[MOST_INSTRUCTIONS * HEIGHTS];
        private int waitingCount;

        void follow(Program program) {
            Arrays.fill(reached, 0);
            waitingCount = 0;
            reach(program, 0, 0);
            for (int i = 0; i < waiting.length && i < waitingCount; i++) {
                int next = read(waiting, i);
                goOn(program, next / HEIGHTS, next % HEIGHTS);
            }
        }

        private void goOn(Program program, int k, int height) {
            if (!program.canBeDone(k, height)) {
                return;
            }
            int op = program.opAt(k);
            int after = height + Op.growth(op);
            if (Op.hasNext(op)) {
                reach(program, k + 1, after);
            }
            if (Op.jumps(op)) {
                reach(program, program.nAt(k), after);
            }
        }

        private void reach(Program program, int k, int height) {
            if (!program.has(k) || isReached(k, height)) {
                return;
            }
            write(reached, k, read(reached, k) | 1 << height);
            write(waiting, waitingCount, k * HEIGHTS + height);
            waitingCount++;
        }

        private boolean isReached(int k, int height) {
            return (read(reached, k) >> height & 1) != 0;
        }

        int firstWrong(Program program) {
            for (int k = 0; k < program.size; k++) {
                if (isWrong(program, k)) {
                    return k;
                }
            }
            return NONE;
        }

        private boolean isWrong(Program program, int k) {
            if (!program.isWellFormed(k) || Integer.bitCount(read(reached, k)) > 1) {
                return true;
            }
            for (int height = 0; height < HEIGHTS; height++) {
                if (isReached(k, height) && !program.canBeDone(k, height)) {
                    return true;
                }
            }
            return false;
        }
    }

    /** Does a GOOD program, and keeps what the latest call left. */
    private static final class Machine {
        private static final int WITH_RESULT = 0, WITHOUT_RESULT = 1, FAILED = 2, GOES_ON = 3;

        int latestResult;
        int stepCount;
        int pairCount;
        final int[] keys = new int[MOST_PAIRS];
        final int[] values = new int[MOST_PAIRS];
        private final int[] arguments = new int[MOST_ARGUMENTS];
        private final int[] locals = new int[LOCALS];
        private final int[] stack = new int[MOST_ON_STACK];
        private int height;
        private int at;

        int run(Program program, int a, int b, int c) {
            begin(a, b, c);
            int outcome = GOES_ON;
            for (int i = 0; i < MOST_STEPS && outcome == GOES_ON; i++) {
                stepCount++;
                outcome = doOne(program.opAt(at), program.nAt(at), program.kind);
            }
            if (outcome == GOES_ON || outcome == FAILED) {
                pairCount = 0;
                return FAILED;
            }
            return outcome;
        }

        private void begin(int a, int b, int c) {
            write(arguments, 0, a);
            write(arguments, 1, b);
            write(arguments, 2, c);
            Arrays.fill(locals, 0);
            height = 0;
            at = 0;
            latestResult = 0;
            stepCount = 0;
            pairCount = 0;
        }

        private int doOne(int op, int n, int kind) {
            at++;
            switch (op) {
                case Op.GO:
                    at = n;
                    return GOES_ON;
                case Op.GO_IF_ZERO:
                    if (pop() == 0) {
                        at = n;
                    }
                    return GOES_ON;
                case Op.EMIT:
                    return emit();
                case Op.FINISH:
                    latestResult = kind == Kind.MAP ? 0 : pop();
                    return WITH_RESULT;
                case Op.FINISH_WITHOUT:
                    return WITHOUT_RESULT;
                default:
                    move(op, n);
                    return GOES_ON;
            }
        }

        private void move(int op, int n) {
            switch (op) {
                case Op.NUMBER:
                    push(n);
                    break;
                case Op.ARGUMENT:
                    push(read(arguments, n));
                    break;
                case Op.LOCAL:
                    push(read(locals, n));
                    break;
                case Op.STORE:
                    write(locals, n, pop());
                    break;
                case Op.POP:
                    pop();
                    break;
                case Op.COPY:
                    int copied = pop();
                    push(copied);
                    push(copied);
                    break;
                case Op.SWAP:
                    int top = pop();
                    int lower = pop();
                    push(top);
                    push(lower);
                    break;
                default:
                    int second = pop();
                    int first = pop();
                    push(combine(op, first, second));
                    break;
            }
        }

        private static int combine(int op, int first, int second) {
            switch (op) {
                case Op.PLUS:
                    return first + second;
                case Op.MINUS:
                    return first - second;
                case Op.TIMES:
                    return first * second;
                case Op.DIVIDE:
                    return second == 0 ? 0 : first / second;
                case Op.REST:
                    return second == 0 ? 0 : first % second;
                case Op.LESS:
                    return first < second ? 1 : 0;
                default:
                    return first == second ? 1 : 0;
            }
        }

        private int emit() {
            if (pairCount >= MOST_PAIRS) {
                return FAILED;
            }
            write(values, pairCount, pop());
            write(keys, pairCount, pop());
            pairCount++;
            return GOES_ON;
        }

        private void push(int value) {
            write(stack, height, value);
            height++;
        }

        private int pop() {
            height--;
            return read(stack, height);
        }
    }
}
