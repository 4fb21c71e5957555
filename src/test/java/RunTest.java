/**
 * Runs of 512 calls in a made-up order, each run on one object, each answer compared with that
 * of a second reading of the document: what one call leaves must not show in another.
 */
public final class RunTest {
    private static final Chance CHANCE = new Chance(512L);
    private static final int CALLS = 512;
    private static final int[] OUTCOMES = new int[4];

    public static void main(String[] args) {
        for (int run = 0; run < 400; run++) {
            oneRun(run);
        }
        // Calls of all sorts must have come up, or the comparison says little.
        for (int outcome = 0; outcome < OUTCOMES.length; outcome++) {
            Due.is("at least 100 calls with outcome " + outcome + " of " + OUTCOMES[outcome],
                OUTCOMES[outcome] >= 100 ? 1 : 0, 1);
        }
        Due.end();
    }

    private static void oneRun(int run) {
        int kind = CHANCE.anyInt();
        Model model = new Model(kind & 3);
        StackJudge judge = new StackJudge(kind);
        int height = 0;
        for (int call = 1; call <= CALLS; call++) {
            String what = "run " + run + " call " + call;
            int sort = CHANCE.below(100);
            if (sort < 40) {
                height = code(what, model, judge, height);
            } else if (sort < 42) {
                Due.is(what + ": clear()", judge.clear(), model.clear());
                height = 0;
            } else if (sort < 43 && model.kind == Due.MAP && call + 20 <= CALLS) {
                call += countdown(what, model, judge);
            } else if (sort < 50) {
                Due.is(what + ": drop()", judge.drop(), model.drop());
            } else if (sort < 55 && call + 2 <= CALLS) {
                call += end(what, model, judge);
            } else {
                ask(what, model, judge, sort);
            }
        }
    }

    /** Mostly what fits the height along the row, and never the end, which would shut off the rest. */
    private static int code(String what, Model model, StackJudge judge, int height) {
        boolean wild = CHANCE.below(100) == 0;
        int op = wild ? CHANCE.anyInt() % 25 : CHANCE.fittingOp(height, model.kind);
        if (!wild && op == 17) {
            op = 0;
        }
        int n = wild ? CHANCE.anyInt() : CHANCE.operand(op, model.rows.size() + 1);
        Due.is(what + ": code(" + op + ", " + n + ")", judge.code(op, n), model.code(op, n));
        return Math.max(0, Math.min(8, height + Model.growth(op)));
    }

    /** The end, a call, and the end away again: how many calls these were beyond the first. */
    private static int end(String what, Model model, StackJudge judge) {
        int op = model.kind == Due.END && CHANCE.below(2) == 0 ? 18 : 17;
        Due.is(what + ": code(" + op + ", 0)", judge.code(op, 0), model.code(op, 0));
        call(what, model, judge);
        if (CHANCE.below(3) == 0) {
            return 1;
        }
        Due.is(what + ": drop() of the end", judge.drop(), model.drop());
        return 2;
    }

    /** Pairs seldom come by chance, so now and then a program that makes some: how many calls more. */
    private static int countdown(String what, Model model, StackJudge judge) {
        int[] row = Made.countdownRow();
        Due.is(what + ": clear()", judge.clear(), model.clear());
        for (int i = 0; i < row.length; i += 2) {
            Due.is(what + ": code " + i / 2, judge.code(row[i], row[i + 1]), model.code(row[i], row[i + 1]));
        }
        call(what, model, judge);
        return row.length / 2 + 1;
    }

    private static void call(String what, Model model, StackJudge judge) {
        int a = CHANCE.below(3) == 0 ? CHANCE.anyInt() : CHANCE.below(30);
        int b = CHANCE.below(5) - 2;
        int c = CHANCE.below(5) - 2;
        int want = model.call(a, b, c);
        OUTCOMES[want == StackJudge.NONE ? 3 : want]++;
        Due.is(what + ": call(" + a + ", " + b + ", " + c + ") of " + model.row(), judge.call(a, b, c), want);
    }

    private static void ask(String what, Model model, StackJudge judge, int sort) {
        int k = CHANCE.below(20) == 0 ? CHANCE.anyInt() : CHANCE.below(70) - 3;
        int few = CHANCE.below(23) - 1;
        int which = CHANCE.below(10) == 0 ? CHANCE.anyInt() : CHANCE.below(3);
        if (sort < 60) {
            call(what, model, judge);
        } else if (sort < 68) {
            Due.is(what + ": check() of " + model.row(), judge.check(), model.check());
        } else if (sort < 78) {
            Due.is(what + ": heights(" + k + ") of " + model.row(), judge.heights(k), model.heights(k));
        } else if (sort < 83) {
            Due.is(what + ": result()", judge.result(), model.result);
        } else if (sort < 88) {
            Due.is(what + ": steps()", judge.steps(), model.steps);
        } else if (sort < 93) {
            Due.is(what + ": pairs()", judge.pairs(), model.pairs.size());
        } else {
            Due.is(what + ": pair(" + few + ", " + which + ")", judge.pair(few, which), model.pair(few, which));
        }
    }
}
