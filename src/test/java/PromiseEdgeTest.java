/**
 * The boundary cases of promises 1 to 11: one method for each sentence that names one; the
 * promise's number stands in the method's name and its words above it.
 */
public final class PromiseEdgeTest {
    private static final int REFUSED = StackJudge.REFUSED, NONE = StackJudge.NONE, FULL = StackJudge.FULL;
    private static final int LEAST = Integer.MIN_VALUE, MOST = Integer.MAX_VALUE;
    private static final int[] NO_SUCH_NUMBER = {LEAST, -65, -64, -2, -1, 64, 65, 128, MOST};

    public static void main(String[] args) {
        theRow();
        theJudgement();
        theCalls();
        whatACallLeaves();
        fiveHundredAndTwelveCalls();
        Due.end();
    }

    private static void theRow() {
        p1NoInstructions();
        p1LowestTwoBits();
        p2ItsNumber();
        p2Full();
        p3HowManyThereWere();
        p4HowManyAreLeft();
        p4NoneIfThereIsNone();
    }

    private static void theJudgement() {
        p5TheFirstWrong();
        p5NoneIfGood();
        p5NoInstructions();
        p6AsBits();
        p6NoBitIfNoWayComes();
        p6RefusedIfThereIsNone();
        p6OfTheProgramAsItIs();
    }

    private static void theCalls() {
        p7DoneWithAll();
        p7WithAResult();
        p7WithoutOne();
        p7IfItFails();
        p7NoneIfNotGood();
    }

    private static void whatACallLeaves() {
        p8OfTheLatestThatWasNotNone();
        p8NoResult();
        p9OfTheLatestThatWasNotNone();
        p9FailedBySteps();
        p9WithAPairTooMany();
        p9BeforeTheFirst();
        p10OfTheLatestThatWasNotNone();
        p10NoPairs();
        p11KeyAndValue();
        p11NoSuchPair();
        p11AnotherWhat();
    }

    // "No instructions."
    private static void p1NoInstructions() {
        for (int kind : Due.KINDS) {
            StackJudge judge = new StackJudge(kind);
            Due.is("new: check()", judge.check(), 64);
            Due.is("new: drop()", judge.drop(), NONE);
            Due.is("new: clear()", judge.clear(), 0);
            Due.is("new: code", judge.code(0, 0), 0);
        }
    }

    // "The KIND, by the lowest two bits: 0 MAP, 1 JOIN, 2 FOLD, 3 END."
    private static void p1LowestTwoBits() {
        kindIs(Due.MAP, 0, 4, 8, -4, LEAST, 1 << 30);
        kindIs(Due.JOIN, 1, 5, 9, -3, LEAST + 1, (1 << 30) + 1);
        kindIs(Due.FOLD, 2, 6, 10, -2, LEAST + 2, MOST - 1);
        kindIs(Due.END, 3, 7, 11, -1, LEAST + 3, MOST);
    }

    // EMIT is of MAP alone, 18 of END alone; JOIN and FOLD alone have a third argument.
    private static void kindIs(int want, int... told) {
        boolean three = want == Due.JOIN || want == Due.FOLD;
        for (int kind : told) {
            Due.checked("EMIT", want == Due.MAP ? NONE : 2, kind, 0, 1, 0, 2, 16, 0, 0, 3, 17, 0);
            Due.checked("18", want == Due.END ? NONE : 0, kind, 18, 0);
            Due.checked("a third argument", three ? NONE : 0, kind, 1, 2, 17, 0);
        }
    }

    // "An instruction comes behind the others: its number.": a WRONG one too
    private static void p2ItsNumber() {
        StackJudge judge = new StackJudge(Due.MAP);
        int[] ops = {17, -1, 19, LEAST, MOST, 14, 16, 18};
        for (int k = 0; k < ops.length; k++) {
            Due.is("code(" + ops[k] + ", ...)", judge.code(ops[k], k % 2 == 0 ? LEAST : MOST), k);
        }
        judge.drop();
        Due.is("code behind a drop", judge.code(17, 0), 7);
        judge.clear();
        Due.is("code behind a clear", judge.code(17, 0), 0);
    }

    // "FULL.": what is refused leaves the row as it was
    private static void p2Full() {
        StackJudge judge = Made.withGoes(Due.FOLD, 62);
        Due.is("code 62", judge.code(1, 2), 62);
        Due.is("code 63", judge.code(17, 0), 63);
        for (int i = 0; i < 3; i++) {
            Due.is("code on 64", judge.code(-1, -1), FULL);
        }
        Due.is("refused: check()", judge.check(), NONE);
        Due.is("refused: heights(64)", judge.heights(64), REFUSED);
        Due.is("refused: call", judge.call(7, 8, 9), 0);
        Due.left("refused", judge, 9, 64, 0);
        Due.is("refused: drop()", judge.drop(), 63);
        Due.is("room again", judge.code(17, 0), 63);
        Due.is("full again", judge.code(17, 0), FULL);
        Due.is("refused: clear()", judge.clear(), 64);
        Due.is("all room again", judge.code(17, 0), 0);
    }

    // "No instructions: how many there were."
    private static void p3HowManyThereWere() {
        for (int count : new int[] {0, 1, 2, 63, 64}) {
            StackJudge judge = Made.withGoes(Due.JOIN, count);
            Due.is("clear() of " + count, judge.clear(), count);
            Due.is("cleared of " + count + ": check()", judge.check(), 64);
            Due.is("cleared of " + count + ": heights(0)", judge.heights(0), REFUSED);
            Due.is("cleared of " + count + ": drop()", judge.drop(), NONE);
            Due.is("cleared of " + count + ": clear()", judge.clear(), 0);
        }
        StackJudge again = Due.program(Due.JOIN, 19, 0, 19, 0, 19, 0);
        again.clear();
        Due.add(again, 0, 6, 17, 0);
        Due.is("nothing of before comes back: check()", again.check(), NONE);
        Due.is("nothing of before comes back: heights(2)", again.heights(2), REFUSED);
    }

    // "The last instruction goes: how many are left."
    private static void p4HowManyAreLeft() {
        StackJudge judge = Made.withGoes(Due.JOIN, 64);
        for (int left = 63; left >= 0; left--) {
            Due.is("drop() to " + left, judge.drop(), left);
            Due.is("dropped to " + left + ": heights", judge.heights(left), REFUSED);
        }
        StackJudge last = Due.program(Due.JOIN, 0, 5, 17, 0, 19, 0);
        Due.is("the last is WRONG: check()", last.check(), 2);
        Due.is("the last goes", last.drop(), 2);
        Due.is("the last went: check()", last.check(), NONE);
        StackJudge goal = Due.program(Due.MAP, 14, 1, 17, 0);
        goal.drop();
        Due.is("the one it goes to went: check()", goal.check(), 0);
    }

    // "NONE if there is none."
    private static void p4NoneIfThereIsNone() {
        StackJudge judge = new StackJudge(Due.END);
        Due.is("drop() of none", judge.drop(), NONE);
        Due.is("drop() of none again", judge.drop(), NONE);
        Due.is("none behind it", judge.check(), 64);
        Due.is("code behind it", judge.code(18, 0), 0);
        Due.is("drop() of one", judge.drop(), 0);
        Due.is("drop() of none once more", judge.drop(), NONE);
        judge.code(18, 0);
        judge.clear();
        Due.is("drop() behind a clear", judge.drop(), NONE);
        Due.is("code behind all", judge.code(18, 0), 0);
    }

    // "The first WRONG instruction": by its number, for whatever reason, from 0 to 63
    private static void p5TheFirstWrong() {
        for (int k = 0; k < 64; k++) {
            StackJudge judge = Made.withGoes(Due.MAP, k);
            for (int i = k; i < 64; i++) {
                judge.code(19, 0);
            }
            Due.is("WRONG from " + k + " on: check()", judge.check(), k);
        }
        Due.checked("by OP before by too few", 1, Due.MAP, 14, 2, 19, 0, 6, 0, 17, 0);
        Due.checked("by too few before by OP", 1, Due.MAP, 14, 1, 6, 0, 19, 0);
        Due.checked("by N before by heights", 1, Due.MAP, 14, 2, 2, 4, 0, 1, 14, 2);
        Due.checked("by heights before by N", 0, Due.MAP, 0, 1, 14, 0, 2, 4);
        Due.checked("by heights before by too many", 0, Due.MAP, 14, 1, 0, 1, 14, 0);
        Due.checked("by too many, late on its way", 8, Due.MAP,
            0, 1, 0, 1, 0, 1, 0, 1, 0, 1, 0, 1, 0, 1, 14, 9, 4, 0, 0, 1, 15, 12, 14, 12, 0, 1, 14, 8);
    }

    // "NONE if the program is GOOD": of 1 as of 64
    private static void p5NoneIfGood() {
        for (int kind : Due.KINDS) {
            Due.checked("one instruction", NONE, kind, 14, 0);
            StackJudge judge = Made.withGoes(kind, 63);
            judge.code(14, 0);
            Due.is("64 instructions: check()", judge.check(), NONE);
            Due.is("64 instructions, asked again: check()", judge.check(), NONE);
        }
    }

    // "64 if it has no instructions."
    private static void p5NoInstructions() {
        for (int kind : Due.KINDS) {
            StackJudge judge = new StackJudge(kind);
            Due.is("new: check()", judge.check(), 64);
            judge.code(14, 0);
            judge.drop();
            Due.is("dropped: check()", judge.check(), 64);
            judge.code(19, 0);
            judge.clear();
            Due.is("cleared: check()", judge.check(), 64);
        }
    }

    // "as bits (bit h for height h)": from 0 to 8
    private static void p6AsBits() {
        for (int height = 0; height <= 8; height++) {
            StackJudge judge = Made.withNumbers(Due.JOIN, height);
            judge.code(14, height);
            Due.is("height " + height, judge.heights(height), 1 << height);
        }
        StackJudge all = Made.withNumbers(Due.JOIN, 8);
        Due.add(all, 0, 0, 6, 0, 14, 8);
        Due.is("8 alone: heights(8)", all.heights(8), 256);
        StackJudge down = Made.withNumbers(Due.JOIN, 8);
        Due.add(down, 6, 0, 14, 8);
        Due.is("all nine: heights(8)", down.heights(8), 511);
        Due.is("all but 8: heights(9)", down.heights(9), 255);
    }

    // An instruction that is there, but that no way reaches, has no heights: no bit, and no refusal.
    private static void p6NoBitIfNoWayComes() {
        StackJudge judge = Made.withGoes(Due.MAP, 0);
        judge.code(17, 0);
        for (int k = 1; k < 64; k++) {
            judge.code(k % 2 == 0 ? 17 : 19, 0);
        }
        for (int k = 1; k < 64; k++) {
            Due.is("no way: heights(" + k + ")", judge.heights(k), 0);
        }
    }

    // "REFUSED if there is none."
    private static void p6RefusedIfThereIsNone() {
        for (int count : new int[] {0, 1, 2, 63, 64}) {
            StackJudge judge = Made.withGoes(Due.END, count);
            for (int k : NO_SUCH_NUMBER) {
                Due.is("heights(" + k + ") of " + count, judge.heights(k), REFUSED);
            }
            Due.is("heights behind the last of " + count, judge.heights(count), REFUSED);
            if (count > 0) {
                Due.is("heights of the last of " + count, judge.heights(count - 1), 1);
            }
        }
    }

    // Heights and WRONG ones of a program that was there before leave nothing behind.
    private static void p6OfTheProgramAsItIs() {
        StackJudge judge = Due.program(Due.MAP, 0, 1, 14, 0, 17, 0, 17, 0);
        Due.reached("a loop", judge, 511, 510, 0, 0);
        Due.is("a loop: check()", judge.check(), 0);
        judge.clear();
        Due.add(judge, 14, 3, 17, 0, 17, 0, 0, 5, 15, 1, 17, 0);
        Due.reached("another program", judge, 1, 1, 0, 1, 2, 1);
        Due.is("another program: check()", judge.check(), NONE);
        judge.drop();
        Due.reached("its last one went", judge, 1, 0, 0, 1, 2);
        Due.is("its last one went: check()", judge.check(), 4);
        judge.code(17, 0);
        Due.reached("its last one came back", judge, 1, 1, 0, 1, 2, 1);
    }

    // "It is done with a, b (and c)"
    private static void p7DoneWithAll() {
        int[] given = {LEAST, MOST, -1};
        for (int n = 0; n < 3; n++) {
            Due.results("argument " + n, given[n], Due.JOIN, LEAST, MOST, -1, 1, n, 17, 0);
            Due.results("argument " + n, given[n], Due.FOLD, LEAST, MOST, -1, 1, n, 17, 0);
        }
        for (int n = 0; n < 2; n++) {
            Due.results("argument " + n, given[n], Due.END, LEAST, MOST, -1, 1, n, 17, 0);
        }
    }

    // "0 with a result (of MAP too)"
    private static void p7WithAResult() {
        for (int kind : Due.KINDS) {
            Due.is("with a result", Due.program(kind, 0, 0, 17, 0).call(0, 0, 0), 0);
        }
        Due.is("a MAP without a pair", Due.program(Due.MAP, 17, 0).call(0, 0, 0), 0);
        Due.is("a MAP with a pair", Due.program(Due.MAP, 0, 1, 0, 1, 16, 0, 17, 0).call(0, 0, 0), 0);
    }

    // "1 without one"
    private static void p7WithoutOne() {
        StackJudge judge = Due.program(Due.END, 1, 0, 4, 0, 15, 4, 17, 0, 18, 0);
        Due.is("without a result", judge.call(0, 0, 0), 1);
        Due.is("with one", judge.call(1, 0, 0), 0);
        Due.is("without one again", judge.call(0, 0, 0), 1);
    }

    // "2 if it FAILS"
    private static void p7IfItFails() {
        for (int kind : Due.KINDS) {
            Due.is("FAILS by steps", Due.program(kind, 14, 0).call(0, 0, 0), 2);
        }
        Due.is("FAILS by pairs", Due.program(Due.MAP, 0, 1, 0, 1, 16, 0, 14, 0).call(0, 0, 0), 2);
    }

    // "NONE if it is not GOOD.": though no way came to the WRONG one in the call
    private static void p7NoneIfNotGood() {
        for (int kind : Due.KINDS) {
            Due.is("no instructions", new StackJudge(kind).call(0, 0, 0), NONE);
            Due.is("WRONG behind the end", Due.program(kind, 0, 1, 17, 0, 19, 0).call(0, 0, 0), NONE);
            Due.is("WRONG by N behind the end", Due.program(kind, 0, 1, 17, 0, 14, 3).call(0, 0, 0), NONE);
            Due.is("WRONG on the other way",
                Due.program(kind, 0, 1, 15, 4, 0, 1, 17, 0, 6, 0, 17, 0).call(0, 0, 0), NONE);
            Due.is("WRONG by heights", Due.program(kind, 0, 1, 0, 0, 15, 1, 15, 1, 0, 1, 17, 0).call(0, 0, 0), NONE);
            Due.is("WRONG by the missing next", Due.program(kind, 0, 1).call(0, 0, 0), NONE);
        }
    }

    /** After a call with a result of 6 and 4 steps, a call that is NONE, in each way it can be. */
    private static StackJudge[] sixThenNone() {
        StackJudge[] judges = new StackJudge[3];
        for (int i = 0; i < 3; i++) {
            judges[i] = Due.program(Due.JOIN, 1, 0, 1, 1, 9, 0, 17, 0);
            Due.is("a result of 6: call", judges[i].call(2, 3, 0), 0);
        }
        judges[0].clear();
        judges[1].code(19, 0);
        judges[2].drop();
        for (StackJudge judge : judges) {
            Due.is("then NONE: call", judge.call(4, 5, 0), NONE);
        }
        return judges;
    }

    /** After a call with 2 pairs (7, 8), (8, 7) and 7 steps, a call that is NONE, in each way it can be. */
    private static StackJudge[] pairsThenNone() {
        StackJudge[] judges = new StackJudge[3];
        for (int i = 0; i < 3; i++) {
            judges[i] = Due.program(Due.MAP, 1, 0, 1, 1, 16, 0, 1, 1, 1, 0, 16, 0, 17, 0);
            Due.is("two pairs: call", judges[i].call(7, 8, 0), 0);
        }
        judges[0].clear();
        judges[1].code(19, 0);
        judges[2].drop();
        for (StackJudge judge : judges) {
            Due.is("then NONE: call", judge.call(4, 5, 0), NONE);
        }
        return judges;
    }

    // "The result of the latest call that was not NONE"
    private static void p8OfTheLatestThatWasNotNone() {
        for (StackJudge judge : sixThenNone()) {
            Due.is("then NONE: result()", judge.result(), 6);
        }
        StackJudge latest = Due.program(Due.FOLD, 1, 0, 17, 0);
        for (int a : new int[] {LEAST, -1, 0, 1, MOST}) {
            latest.call(a, 0, 0);
            Due.is("the latest: result()", latest.result(), a);
        }
    }

    // "0 if it was a MAP, had none, FAILED, or there was none."
    private static void p8NoResult() {
        for (int kind : Due.KINDS) {
            StackJudge judge = new StackJudge(kind);
            Due.is("no call: result()", judge.result(), 0);
            judge.call(1, 2, 3);
            Due.is("NONE alone: result()", judge.result(), 0);
        }
        StackJudge map = Due.program(Due.MAP, 0, 5, 17, 0);
        map.call(1, 2, 3);
        Due.is("a MAP: result()", map.result(), 0);
        StackJudge end = Due.program(Due.END, 1, 0, 4, 0, 15, 4, 17, 0, 18, 0);
        end.call(9, 0, 0);
        Due.is("had one: result()", end.result(), 9);
        end.call(0, 0, 0);
        Due.is("had none: result()", end.result(), 0);
        StackJudge failing = Due.program(Due.JOIN, 0, 5, 1, 0, 15, 1, 17, 0);
        failing.call(1, 0, 0);
        Due.is("before it FAILED: result()", failing.result(), 5);
        failing.call(0, 0, 0);
        Due.is("FAILED: result()", failing.result(), 0);
    }

    // "STEPS of the latest call that was not NONE"
    private static void p9OfTheLatestThatWasNotNone() {
        for (StackJudge judge : sixThenNone()) {
            Due.is("then NONE: steps()", judge.steps(), 4);
        }
        StackJudge failing = Due.program(Due.JOIN, 14, 0);
        failing.call(0, 0, 0);
        failing.clear();
        failing.call(0, 0, 0);
        Due.is("FAILED, then NONE: steps()", failing.steps(), 300);
        Due.add(failing, 0, 1, 17, 0);
        failing.call(0, 0, 0);
        Due.is("then done: steps()", failing.steps(), 2);
    }

    // "(300, if it FAILED by them"
    private static void p9FailedBySteps() {
        for (int kind : Due.KINDS) {
            for (int steps = 299; steps <= 302; steps++) {
                StackJudge judge = Made.ofSteps(kind, steps);
                judge.call(0, 0, 0);
                Due.is(steps + " steps: steps()", judge.steps(), Math.min(steps, 300));
            }
        }
    }

    // "with a PAIR too many that instruction counts)"
    private static void p9WithAPairTooMany() {
        StackJudge judge = Due.program(Due.MAP, 0, 1, 4, 0, 16, 0, 14, 0);
        Due.is("a pair in 4 steps: call", judge.call(0, 0, 0), 2);
        Due.is("a pair in 4 steps: steps()", judge.steps(), 20 * 4 + 3);
        for (int step = 210; step <= 300; step += 45) {
            StackJudge late = Made.emitsOneMoreAt(20, step);
            Due.is("a pair too many at step " + step + ": call", late.call(0, 0, 0), 2);
            Due.is("a pair too many at step " + step + ": steps()", late.steps(), step);
        }
    }

    // "0 before the first."
    private static void p9BeforeTheFirst() {
        for (int kind : Due.KINDS) {
            StackJudge judge = new StackJudge(kind);
            Due.is("no call: steps()", judge.steps(), 0);
            judge.call(0, 0, 0);
            Due.is("NONE alone, no instructions: steps()", judge.steps(), 0);
            judge.code(19, 0);
            judge.call(0, 0, 0);
            Due.is("NONE alone, a WRONG one: steps()", judge.steps(), 0);
            judge.check();
            Due.is("checked: steps()", judge.steps(), 0);
        }
    }

    // "PAIRS of the latest call that was not NONE"
    private static void p10OfTheLatestThatWasNotNone() {
        for (StackJudge judge : pairsThenNone()) {
            Due.is("then NONE: pairs()", judge.pairs(), 2);
        }
        StackJudge judge = Made.countdown();
        for (int count : new int[] {20, 1, 19, 2}) {
            judge.call(count, 0, 0);
            Due.is("the latest: pairs()", judge.pairs(), count);
        }
    }

    // "0 if it FAILED, or there was none."
    private static void p10NoPairs() {
        for (int kind : Due.KINDS) {
            StackJudge judge = new StackJudge(kind);
            Due.is("no call: pairs()", judge.pairs(), 0);
            judge.call(1, 2, 3);
            Due.is("NONE alone: pairs()", judge.pairs(), 0);
            Due.add(judge, 0, 1, 17, 0);
            judge.call(1, 2, 3);
            Due.is("a call without a pair: pairs()", judge.pairs(), 0);
        }
        StackJudge bySteps = Due.program(Due.MAP, 0, 1, 0, 2, 16, 0, 1, 0, 15, 3, 17, 0);
        bySteps.call(1, 0, 0);
        Due.is("before it FAILED: pairs()", bySteps.pairs(), 1);
        bySteps.call(0, 0, 0);
        Due.is("FAILED by steps: pairs()", bySteps.pairs(), 0);
        StackJudge byPairs = Made.countdown();
        byPairs.call(21, 0, 0);
        Due.is("FAILED by pairs: pairs()", byPairs.pairs(), 0);
    }

    // "PAIR k, what 0: its key, 1: its value": from 0 to 19, with any ints
    private static void p11KeyAndValue() {
        StackJudge judge = Made.countdown();
        judge.call(20, LEAST, 0);
        for (int k = 0; k < 20; k++) {
            Due.is("key " + k, judge.pair(k, 0), 20 - k);
            Due.is("value " + k, judge.pair(k, 1), LEAST);
        }
        StackJudge signs = Due.program(Due.MAP, 1, 0, 1, 1, 16, 0, 17, 0);
        signs.call(-1, MOST, 0);
        Due.is("the key -1", signs.pair(0, 0), -1);
        Due.is("the greatest value", signs.pair(0, 1), MOST);
        for (StackJudge none : pairsThenNone()) {
            Due.is("then NONE: pair(0, 0)", none.pair(0, 0), 7);
            Due.is("then NONE: pair(0, 1)", none.pair(0, 1), 8);
            Due.is("then NONE: pair(1, 0)", none.pair(1, 0), 8);
            Due.is("then NONE: pair(1, 1)", none.pair(1, 1), 7);
        }
    }

    private static void hasNoPair(String when, StackJudge judge, int k) {
        Due.is(when + ": pair(" + k + ", 0)", judge.pair(k, 0), Due.NO_PAIR);
        Due.is(when + ": pair(" + k + ", 1)", judge.pair(k, 1), Due.NO_PAIR);
    }

    // "2^40 if there is none"
    private static void p11NoSuchPair() {
        Due.is("2^40", Due.NO_PAIR, 1L << 40);
        StackJudge judge = Made.countdown();
        hasNoPair("no call", judge, 0);
        for (int count : new int[] {20, 3, 1}) {
            judge.call(count, 5, 0);
            hasNoPair("behind the last of " + count, judge, count);
            hasNoPair("before the first of " + count, judge, -1);
            hasNoPair("of " + count, judge, 20);
            for (int k : NO_SUCH_NUMBER) {
                hasNoPair("of " + count, judge, k);
            }
        }
        judge.call(21, 5, 0);
        for (int k = 0; k <= 20; k++) {
            hasNoPair("FAILED by pairs", judge, k);
        }
        StackJudge bySteps = Due.program(Due.MAP, 0, 1, 0, 2, 16, 0, 14, 3);
        bySteps.call(0, 0, 0);
        hasNoPair("FAILED by steps", bySteps, 0);
        StackJudge empty = Due.program(Due.MAP, 17, 0);
        empty.call(0, 0, 0);
        hasNoPair("a MAP without a pair", empty, 0);
        for (int kind : new int[] {Due.JOIN, Due.FOLD, Due.END}) {
            StackJudge other = Due.program(kind, 0, 1, 17, 0);
            other.call(0, 0, 0);
            hasNoPair("kind " + kind, other, 0);
        }
    }

    // "or for another what."
    private static void p11AnotherWhat() {
        StackJudge judge = Due.program(Due.MAP, 0, 5, 0, 6, 16, 0, 17, 0);
        judge.call(0, 0, 0);
        for (int what : new int[] {LEAST, -2, -1, 2, 3, 256, 257, MOST}) {
            Due.is("pair(0, " + what + ")", judge.pair(0, what), Due.NO_PAIR);
            Due.is("pair(1, " + what + ")", judge.pair(1, what), Due.NO_PAIR);
        }
    }

    // "An object is used for at most 512 calls after it has been made": up to then all holds
    private static void fiveHundredAndTwelveCalls() {
        StackJudge judge = Made.countdown();
        int made = 13;
        for (; made + 4 <= 512; made += 4) {
            int count = 1 + made % 21;
            Due.is("call " + made, judge.call(count, made, 0), count > 20 ? 2 : 0);
            Due.is("behind call " + made + ": check()", judge.check(), NONE);
            Due.is("behind call " + made + ": steps()", judge.steps(), count > 20 ? 205 : 2 + 10 * count);
            Due.is("behind call " + made + ": pair(0, 1)", judge.pair(0, 1), count > 20 ? Due.NO_PAIR : made);
        }
        for (; made + 1 < 512; made++) {
            Due.is("call " + made + ": code", judge.code(17, 0), made - 509 + 13);
        }
        Due.is("call 512: clear()", judge.clear(), 15);
    }
}
