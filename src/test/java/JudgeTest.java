import java.util.Arrays;

/** Promises 5 and 6: check, heights. */
public final class JudgeTest {
    private static final int NONE = StackJudge.NONE;

    public static void main(String[] args) {
        ops();
        ns();
        tooFew();
        tooMany();
        missingNext();
        otherHeights();
        unreachable();
        firstWrong();
        waysEndAtWrongOnes();
        heightsRefused();
        longWays();
        Due.end();
    }

    private static void ops() {
        for (int kind : Due.KINDS) {
            for (int op : new int[] {-1, 19, 20, 256, Integer.MIN_VALUE, Integer.MAX_VALUE}) {
                Due.checked("op " + op, 0, kind, op, 0, 0, 1, 17, 0);
                Due.checked("op " + op + " that no way reaches", 2, kind, 0, 1, 17, 0, op, 0);
            }
            Due.checked("EMIT that no way reaches", kind == Due.MAP ? NONE : 2, kind, 0, 1, 17, 0, 16, 0, 17, 0);
            Due.checked("18 that no way reaches", kind == Due.END ? NONE : 2, kind, 0, 1, 17, 0, 18, 0);
        }
        Due.checked("18 needs nothing", NONE, Due.END, 18, 0);
        Due.checked("18 with some on the stack", NONE, Due.END, 0, 1, 0, 1, 18, 0);
        Due.checked("17 of MAP with some on the stack", NONE, Due.MAP, 0, 1, 0, 1, 17, 0);
    }

    private static void ns() {
        for (int kind : Due.KINDS) {
            int arguments = kind == Due.JOIN || kind == Due.FOLD ? 3 : 2;
            for (int n : new int[] {Integer.MIN_VALUE, -1, 0, 1, 2, 3, 4, 5, Integer.MAX_VALUE}) {
                boolean local = n >= 0 && n <= 3;
                Due.checked("argument " + n, n >= 0 && n < arguments ? NONE : 0, kind, 1, n, 17, 0);
                Due.checked("local " + n, local ? NONE : 0, kind, 2, n, 17, 0);
                Due.checked("to local " + n, local ? NONE : 1, kind, 0, 7, 3, n, 0, 7, 17, 0);
                Due.checked("number " + n, NONE, kind, 0, n, 17, 0);
                Due.checked("17 with " + n, NONE, kind, 0, 1, 17, n);
                Due.checked("+ with " + n, NONE, kind, 0, 1, 0, 1, 7, n, 17, 0);
                Due.checked("argument behind the end " + n, n >= 0 && n < arguments ? NONE : 2, kind,
                    0, 1, 17, 0, 1, n);
            }
        }
        for (int n : new int[] {Integer.MIN_VALUE, -1, 3, 64, Integer.MAX_VALUE}) {
            Due.checked("go to " + n, 0, Due.MAP, 14, n, 17, 0, 17, 0);
            Due.checked("if 0 go to " + n, 1, Due.MAP, 0, 1, 15, n, 17, 0);
            Due.checked("go to that no way reaches " + n, 1, Due.MAP, 17, 0, 14, n, 17, 0);
        }
        Due.checked("go to the last", NONE, Due.MAP, 14, 2, 17, 0, 17, 0);
        Due.checked("go to itself", NONE, Due.JOIN, 14, 0);
        Due.checked("if 0 go to the first", NONE, Due.MAP, 0, 1, 15, 0, 17, 0);
        Due.checked("if 0 go to the next", NONE, Due.MAP, 0, 1, 15, 2, 17, 0);
    }

    // How many each op needs, by the document; 17 of MAP and 18 need none.
    private static int needed(int op, int kind) {
        switch (op) {
            case 5: case 7: case 8: case 9: case 10: case 11: case 12: case 13: case 16:
                return 2;
            case 3: case 4: case 6: case 15:
                return 1;
            case 17:
                return kind == Due.MAP ? 0 : 1;
            default:
                return 0;
        }
    }

    private static int heightAfter(int op, int height) {
        switch (op) {
            case 0: case 1: case 2: case 4:
                return height + 1;
            case 5: case 14: case 17: case 18:
                return height;
            case 16:
                return height - 2;
            default:
                return height - 1;
        }
    }

    private static boolean isOf(int op, int kind) {
        return (op != 16 || kind == Due.MAP) && (op != 18 || kind == Due.END);
    }

    /** Numbers up to a height, then the op, which ends or goes on to a go-to-itself. */
    private static StackJudge withHeight(int kind, int op, int height) {
        StackJudge judge = new StackJudge(kind);
        for (int i = 0; i < height; i++) {
            judge.code(0, i);
        }
        judge.code(op, op == 14 || op == 15 ? height + 1 : 0);
        judge.code(14, height + 1);
        return judge;
    }

    private static void tooFew() {
        for (int kind : Due.KINDS) {
            for (int op = 0; op <= 18; op++) {
                if (isOf(op, kind)) {
                    heightsAround(kind, op);
                }
            }
        }
    }

    private static void heightsAround(int kind, int op) {
        for (int height = 0; height <= 8; height++) {
            String what = "op " + op + " of kind " + kind + " with height " + height;
            StackJudge judge = withHeight(kind, op, height);
            int after = heightAfter(op, height);
            boolean good = height >= needed(op, kind) && after <= 8;
            boolean ends = op == 17 || op == 18;
            Due.is(what + ": check()", judge.check(), good ? NONE : height);
            Due.is(what + ": heights", judge.heights(height), 1 << height);
            Due.is(what + ": heights behind it", judge.heights(height + 1), good && !ends ? 1 << after : 0);
        }
    }

    private static void tooMany() {
        for (int op : new int[] {0, 1, 2, 4}) {
            int[] row = new int[20];
            for (int i = 0; i < 9; i++) {
                row[2 * i] = i == 0 ? 0 : op;
            }
            row[18] = 17;
            Due.checked("nine of op " + op, 8, Due.JOIN, row);
            int[] shorter = Arrays.copyOfRange(row, 2, 20);
            shorter[0] = 0;
            Due.checked("eight of op " + op, NONE, Due.JOIN, shorter);
        }
    }

    private static void missingNext() {
        Due.checked("a number alone", 0, Due.MAP, 0, 1);
        Due.checked("EMIT at the end", 2, Due.MAP, 0, 1, 0, 2, 16, 0);
        Due.checked("if 0 go, at the end", 1, Due.MAP, 0, 0, 15, 0);
        Due.checked("go, at the end", NONE, Due.MAP, 0, 0, 6, 0, 14, 0);
        Due.checked("18 at the end", NONE, Due.END, 18, 0);
    }

    private static void otherHeights() {
        StackJudge two = Due.program(Due.MAP, 0, 1, 15, 3, 0, 5, 17, 0);
        Due.is("17 of MAP with two heights", two.check(), 3);
        Due.reached("17 of MAP with two heights", two, 1, 2, 1, 3);

        StackJudge loop = Due.program(Due.MAP, 0, 7, 14, 0);
        Due.is("a loop that grows: check()", loop.check(), 0);
        Due.reached("a loop that grows", loop, 511, 510);

        StackJudge shrinks = Due.program(Due.MAP, 0, 1, 0, 1, 0, 1, 6, 0, 14, 3);
        Due.is("a loop that shrinks: check()", shrinks.check(), 3);
        Due.reached("a loop that shrinks", shrinks, 1, 2, 4, 15, 7);

        StackJudge same = Due.program(Due.JOIN, 1, 0, 15, 4, 0, 5, 14, 5, 0, 6, 17, 0);
        Due.is("two ways with one height", same.check(), NONE);
        Due.reached("two ways with one height", same, 1, 2, 1, 2, 1, 2);
    }

    private static void unreachable() {
        StackJudge few = Due.program(Due.JOIN, 0, 1, 17, 0, 9, 0, 15, 0, 17, 0);
        Due.is("too few where no way comes", few.check(), NONE);
        Due.reached("too few where no way comes", few, 1, 2, 0, 0, 0);
        Due.checked("no next where no way comes", NONE, Due.MAP, 17, 0, 0, 1);
        Due.checked("if 0 go, no next, where no way comes", NONE, Due.MAP, 17, 0, 15, 0);
        Due.checked("behind a go", NONE, Due.MAP, 14, 2, 6, 0, 17, 0);
    }

    private static void firstWrong() {
        Due.checked("the lowest, not the first on a way", 1, Due.MAP, 14, 2, 19, 0, 6, 0, 17, 0);
        Due.checked("the lowest of two by ways", 1, Due.MAP, 14, 2, 6, 0, 14, 1, 17, 0);
        Due.checked("a later one by op", 1, Due.MAP, 0, 1, 18, 0, -1, 0);
        StackJudge mended = Due.program(Due.MAP, 0, 1);
        Due.is("before it is mended", mended.check(), 0);
        mended.code(17, 0);
        Due.is("mended", mended.check(), NONE);
        Due.is("asked again", mended.check(), NONE);
    }

    private static void waysEndAtWrongOnes() {
        Due.reached("behind a wrong op", Due.program(Due.MAP, 19, 0, 17, 0), 1, 0);
        Due.reached("behind op -1", Due.program(Due.MAP, -1, 0, 17, 0), 1, 0);
        Due.reached("behind an op of another kind", Due.program(Due.MAP, 18, 0, 17, 0), 1, 0);
        Due.reached("behind EMIT of JOIN", Due.program(Due.JOIN, 0, 1, 0, 1, 16, 0, 17, 0), 1, 2, 4, 0);
        Due.reached("behind no argument", Due.program(Due.MAP, 1, 2, 17, 0), 1, 0);
        Due.reached("behind no local", Due.program(Due.MAP, 2, 4, 17, 0), 1, 0);
        Due.reached("behind if 0 go to nowhere", Due.program(Due.MAP, 0, 1, 15, 3, 17, 0), 1, 2, 0);
        Due.reached("behind too few", Due.program(Due.MAP, 0, 1, 7, 0, 17, 0), 1, 2, 0);
        Due.reached("if 0 go back, no next", Due.program(Due.MAP, 14, 2, 17, 0, 0, 1, 15, 1), 1, 0, 1, 2);

        // Too few with one height does not end the way with the other height.
        StackJudge split = Due.program(Due.MAP, 0, 1, 15, 3, 0, 5, 6, 0, 17, 0);
        Due.is("a way ends, another goes on: check()", split.check(), 3);
        Due.reached("a way ends, another goes on", split, 1, 2, 1, 3, 1);
        // An instruction that is WRONG by its heights alone lets all its ways go on.
        StackJudge on = Due.program(Due.MAP, 0, 1, 15, 3, 0, 5, 2, 0, 17, 0);
        Due.is("both ways go on: check()", on.check(), 3);
        Due.reached("both ways go on", on, 1, 2, 1, 3, 6);
    }

    private static void heightsRefused() {
        StackJudge judge = Due.program(Due.MAP, 17, 0);
        for (int k : new int[] {Integer.MIN_VALUE, -1, 1, 63, 64, 65, Integer.MAX_VALUE}) {
            Due.is("heights(" + k + ")", judge.heights(k), StackJudge.REFUSED);
        }
        judge.clear();
        Due.is("heights(0) of no instructions", judge.heights(0), StackJudge.REFUSED);
    }

    // All instructions with all heights, but for the last with 0: nearly the most that can wait.
    private static void longWays() {
        StackJudge judge = new StackJudge(Due.MAP);
        for (int k = 0; k < 62; k++) {
            judge.code(14, k + 1);
        }
        Due.add(judge, 0, 1, 14, 0);
        Due.is("long ways: check()", judge.check(), 0);
        for (int k = 0; k < 64; k++) {
            Due.is("long ways: heights(" + k + ")", judge.heights(k), k == 63 ? 510 : 511);
        }
        Due.is("long ways: call", judge.call(1, 1, 1), NONE);
    }
}
