/**
 * Many made-up programs, each on an object of its own, each answer compared with that of a
 * second, plain reading of the document.
 */
public final class ModelTest {
    private static final Chance CHANCE = new Chance(20261115L);

    public static void main(String[] args) {
        int good = 0;
        int failing = 0;
        for (int round = 0; round < 60000; round++) {
            Model model = new Model(CHANCE.below(4));
            StackJudge judge = new StackJudge(model.kind);
            fill(model, judge);
            String what = "round " + round + " kind " + model.kind + " " + model.row();
            int outcome = compare(what, model, judge);
            good += outcome == StackJudge.NONE ? 0 : 1;
            failing += outcome == 2 ? 1 : 0;
        }
        // Programs of all sorts must have come up, or the comparison says little.
        Due.is("at least 5000 GOOD programs of " + good, good >= 5000 ? 1 : 0, 1);
        Due.is("at least 100 that FAIL of " + failing, failing >= 100 ? 1 : 0, 1);
        Due.end();
    }

    /** Mostly instructions that fit the height along the row; now and then any at all. */
    private static void fill(Model model, StackJudge judge) {
        int size = CHANCE.below(12) == 0 ? 20 + CHANCE.below(45) : 1 + CHANCE.below(12);
        int wildness = CHANCE.below(3) == 0 ? 6 : 60;
        int height = 0;
        for (int k = 0; k < size - 1; k++) {
            int op = CHANCE.below(wildness) == 0 ? CHANCE.below(22) - 1 : CHANCE.fittingOp(height, model.kind);
            add(model, judge, op, CHANCE.operand(op, size));
            height = Math.max(0, Math.min(8, height + Model.growth(op)));
        }
        add(model, judge, CHANCE.below(8) == 0 ? CHANCE.below(19) : 17, CHANCE.below(size));
    }

    private static void add(Model model, StackJudge judge, int op, int n) {
        model.code(op, n);
        judge.code(op, n);
    }

    private static int compare(String what, Model model, StackJudge judge) {
        Due.is(what + ": check()", judge.check(), model.check());
        for (int k = 0; k < model.rows.size(); k++) {
            Due.is(what + ": heights(" + k + ")", judge.heights(k), model.heights(k));
        }
        int a = CHANCE.below(9) - 3;
        int b = CHANCE.below(9) - 3;
        int c = CHANCE.below(9) - 3;
        int outcome = model.call(a, b, c);
        Due.is(what + ": call", judge.call(a, b, c), outcome);
        Due.left(what, judge, model.result, model.steps, model.pairs.size());
        for (int k = 0; k < model.pairs.size(); k++) {
            Due.is(what + ": key " + k, judge.pair(k, 0), model.pair(k, 0));
            Due.is(what + ": value " + k, judge.pair(k, 1), model.pair(k, 1));
        }
        return outcome;
    }
}
