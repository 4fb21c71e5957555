/** Compares answers with those that are due, and ends a test with exit code 1 if one differs. */
final class Due {
    static final int MAP = 0, JOIN = 1, FOLD = 2, END = 3;
    static final int[] KINDS = {MAP, JOIN, FOLD, END};
    static final long NO_PAIR = 1099511627776L;
    private static int wrong = 0;
    private static int asked = 0;

    private Due() {
    }

    static void is(String what, long got, long want) {
        asked++;
        if (got != want) {
            wrong++;
            System.out.println(what + " answered " + got + ", due is " + want);
        }
    }

    /** A new object with these instructions, written as op, n, op, n, ... */
    static StackJudge program(int kind, int... opsAndNs) {
        StackJudge judge = new StackJudge(kind);
        add(judge, opsAndNs);
        return judge;
    }

    static void add(StackJudge judge, int... opsAndNs) {
        for (int i = 0; i < opsAndNs.length; i += 2) {
            judge.code(opsAndNs[i], opsAndNs[i + 1]);
        }
    }

    static void checked(String what, int want, int kind, int... opsAndNs) {
        is(what + " (kind " + kind + "): check()", program(kind, opsAndNs).check(), want);
    }

    /** A new object's call with these three arguments ends with this result. */
    static void results(String what, int want, int kind, int a, int b, int c, int... opsAndNs) {
        StackJudge judge = program(kind, opsAndNs);
        is(what + " (kind " + kind + "): call", judge.call(a, b, c), 0);
        is(what + " (kind " + kind + "): result()", judge.result(), want);
    }

    static void reached(String what, StackJudge judge, int... want) {
        for (int k = 0; k < want.length; k++) {
            is(what + ": heights(" + k + ")", judge.heights(k), want[k]);
        }
        is(what + ": heights behind the last", judge.heights(want.length), StackJudge.REFUSED);
    }

    static void left(String what, StackJudge judge, int result, int steps, int pairs) {
        is(what + ": result()", judge.result(), result);
        is(what + ": steps()", judge.steps(), steps);
        is(what + ": pairs()", judge.pairs(), pairs);
        is(what + ": pair behind the last", judge.pair(pairs, 0), NO_PAIR);
    }

    static void end() {
        System.out.println(asked + " answers, " + wrong + " not as due");
        if (wrong != 0 || asked == 0) {
            System.exit(1);
        }
    }
}
