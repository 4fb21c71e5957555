/** Promises 7 to 11: call, result, steps, pairs, pair. */
public final class CallTest {
    private static final int LEAST = Integer.MIN_VALUE, MOST = Integer.MAX_VALUE;

    public static void main(String[] args) {
        arithmetic();
        argumentsAndLocals();
        stackMoves();
        jumps();
        endsOfKinds();
        notGood();
        stepLimit();
        pairLimit();
        pairsOfMap();
        wrongPairs();
        Due.end();
    }

    private static void binary(int op, int lower, int top, int want) {
        StackJudge judge = Due.program(Due.JOIN, 1, 0, 1, 1, op, 0, 17, 0);
        String what = lower + " op " + op + " " + top;
        Due.is(what + ": call", judge.call(lower, top, 99), 0);
        Due.left(what, judge, want, 4, 0);
    }

    private static void arithmetic() {
        binary(7, 2, 3, 5);
        binary(7, MOST, 1, LEAST);
        binary(8, 2, 5, -3);
        binary(8, LEAST, 1, MOST);
        binary(9, -4, 5, -20);
        binary(9, 65536, 65536, 0);
        binary(9, LEAST, -1, LEAST);
        binary(10, 7, 2, 3);
        binary(10, -7, 2, -3);
        binary(10, 7, -2, -3);
        binary(10, 7, 0, 0);
        binary(10, 0, 0, 0);
        binary(10, LEAST, -1, LEAST);
        binary(11, 7, 3, 1);
        binary(11, -7, 3, -1);
        binary(11, 7, -3, 1);
        binary(11, 7, 0, 0);
        binary(11, LEAST, -1, 0);
        binary(12, 1, 2, 1);
        binary(12, 2, 1, 0);
        binary(12, 2, 2, 0);
        binary(12, LEAST, MOST, 1);
        binary(12, MOST, LEAST, 0);
        binary(13, 5, 5, 1);
        binary(13, 5, 6, 0);
        binary(13, 6, 5, 0);
    }

    private static void argumentsAndLocals() {
        for (int kind : new int[] {Due.JOIN, Due.FOLD, Due.END}) {
            for (int n = 0; n < (kind == Due.END ? 2 : 3); n++) {
                StackJudge judge = Due.program(kind, 1, n, 17, 0);
                Due.is("argument " + n, judge.call(10, 11, 12), 0);
                Due.left("argument " + n, judge, 10 + n, 2, 0);
                Due.is("argument " + n + " of another call", judge.call(-20, LEAST, MOST), 0);
                Due.is("argument " + n + " of another call: result()",
                    judge.result(), new int[] {-20, LEAST, MOST}[n]);
            }
        }
        for (int n = 0; n < 4; n++) {
            StackJudge judge = Due.program(Due.JOIN, 2, n, 1, 0, 3, n, 2, n, 0, 100, 9, 0, 7, 0, 17, 0);
            judge.call(5, 0, 0);
            Due.is("local " + n, judge.result(), 500);
            judge.call(6, 0, 0);
            Due.is("local " + n + " is 0 at first, in each call", judge.result(), 600);
        }
        StackJudge four = Due.program(Due.END, 0, 1, 3, 0, 0, 2, 3, 1, 0, 3, 3, 2, 0, 4, 3, 3);
        Due.add(four, 2, 0, 0, 10, 9, 0, 2, 1, 7, 0, 0, 10, 9, 0, 2, 2, 7, 0, 0, 10, 9, 0, 2, 3, 7, 0, 17, 0);
        Due.is("four locals", four.call(0, 0, 0), 0);
        Due.is("four locals: result()", four.result(), 1234);
        StackJudge number = Due.program(Due.END, 0, LEAST, 17, 0);
        number.call(0, 0, 0);
        Due.is("the least number", number.result(), LEAST);
    }

    private static void stackMoves() {
        StackJudge copy = Due.program(Due.FOLD, 1, 0, 4, 0, 9, 0, 17, 0);
        copy.call(9, 0, 0);
        Due.left("the top once more", copy, 81, 4, 0);
        StackJudge swap = Due.program(Due.FOLD, 1, 0, 1, 1, 5, 0, 8, 0, 17, 0);
        swap.call(9, 2, 0);
        Due.left("change places", swap, -7, 5, 0);
        StackJudge pop = Due.program(Due.FOLD, 1, 0, 1, 1, 6, 0, 17, 0);
        pop.call(9, 2, 0);
        Due.left("the top goes", pop, 9, 4, 0);
        StackJudge high = new StackJudge(Due.FOLD);
        for (int i = 0; i < 8; i++) {
            high.code(0, 1 << i);
        }
        for (int i = 0; i < 7; i++) {
            high.code(7, 0);
        }
        high.code(17, 0);
        Due.is("eight on the stack", high.call(0, 0, 0), 0);
        Due.left("eight on the stack", high, 255, 16, 0);
        StackJudge top = Due.program(Due.JOIN, 0, 1, 0, 2, 0, 3, 17, 0);
        top.call(0, 0, 0);
        Due.is("the top is the result", top.result(), 3);
        StackJudge full = Due.program(Due.JOIN, 0, 1, 0, 2, 0, 3, 0, 4, 0, 5, 0, 6, 0, 7, 1, 0, 17, 0);
        for (int a = 1; a <= 3; a++) {
            Due.is("nothing is left on the stack for call " + a, full.call(a, 0, 0), 0);
            Due.left("nothing is left on the stack for call " + a, full, a, 9, 0);
        }
    }

    private static void jumps() {
        StackJudge ifZero = Due.program(Due.JOIN, 1, 0, 15, 4, 0, 100, 17, 0, 0, 200, 17, 0);
        int[] arguments = {0, 1, -1, LEAST, MOST};
        for (int a : arguments) {
            Due.is("if " + a + " is 0", ifZero.call(a, 0, 0), 0);
            Due.left("if " + a + " is 0", ifZero, a == 0 ? 200 : 100, 4, 0);
        }
        StackJudge go = Due.program(Due.JOIN, 14, 3, 0, 1, 17, 0, 0, 2, 14, 2);
        Due.is("go", go.call(0, 0, 0), 0);
        Due.left("go", go, 2, 4, 0);
        // The sum from a down to 1.
        StackJudge sum = Due.program(Due.FOLD, 1, 0, 3, 0, 2, 0, 15, 13, 2, 1, 2, 0, 7, 0, 3, 1, 2, 0);
        Due.add(sum, 0, 1, 8, 0, 3, 0, 14, 2, 2, 1, 17, 0);
        Due.is("a sum", sum.call(10, 0, 0), 0);
        Due.left("a sum", sum, 55, 2 + 10 * 11 + 4, 0);
    }

    private static void endsOfKinds() {
        StackJudge map = Due.program(Due.MAP, 0, 5, 17, 0);
        Due.is("end of MAP", map.call(1, 2, 3), 0);
        Due.left("end of MAP", map, 0, 2, 0);
        StackJudge end = Due.program(Due.END, 1, 0, 4, 0, 15, 4, 17, 0, 18, 0);
        Due.is("END with result", end.call(8, 0, 0), 0);
        Due.left("END with result", end, 8, 4, 0);
        Due.is("END without", end.call(0, 0, 0), 1);
        Due.left("END without", end, 0, 4, 0);
    }

    private static void notGood() {
        StackJudge judge = Due.program(Due.MAP, 1, 0, 1, 1, 16, 0, 17, 0);
        Due.is("good", judge.call(3, 4, 0), 0);
        judge.code(19, 0);
        Due.is("not good", judge.call(5, 6, 0), StackJudge.NONE);
        Due.left("what the call before left", judge, 0, 4, 1);
        Due.is("its key", judge.pair(0, 0), 3);
        Due.is("its value", judge.pair(0, 1), 4);
        judge.clear();
        Due.is("no instructions", judge.call(5, 6, 0), StackJudge.NONE);
        Due.left("what the call before left, cleared", judge, 0, 4, 1);
        Due.is("its key, cleared", judge.pair(0, 0), 3);

        StackJudge fold = Due.program(Due.FOLD, 1, 2, 17, 0);
        fold.call(1, 2, 3);
        fold.drop();
        Due.is("not good, FOLD", fold.call(4, 5, 6), StackJudge.NONE);
        Due.left("what the FOLD before left", fold, 3, 2, 0);
    }

    private static void stepLimit() {
        StackJudge most = Made.ofSteps(Due.FOLD, 300);
        Due.is("300 steps", most.call(0, 0, 0), 0);
        Due.left("300 steps", most, 77, 300, 0);
        StackJudge fewer = Made.ofSteps(Due.FOLD, 299);
        Due.is("299 steps", fewer.call(0, 0, 0), 0);
        Due.left("299 steps", fewer, 77, 299, 0);
        StackJudge over = Made.ofSteps(Due.FOLD, 301);
        Due.is("301 steps", over.call(0, 0, 0), 2);
        Due.left("301 steps", over, 0, 300, 0);

        StackJudge either = Due.program(Due.JOIN, 1, 0, 15, 0, 1, 1, 17, 0);
        Due.is("a result", either.call(1, 44, 0), 0);
        Due.is("then endless", either.call(0, 44, 0), 2);
        Due.left("then endless", either, 0, 300, 0);
        Due.is("then a result", either.call(1, 45, 0), 0);
        Due.left("then a result", either, 45, 4, 0);
        StackJudge self = Due.program(Due.END, 14, 0);
        Due.is("go to itself", self.call(0, 0, 0), 2);
        Due.left("go to itself", self, 0, 300, 0);
    }

    private static void pairLimit() {
        StackJudge judge = Made.countdown();
        Due.is("20 pairs", judge.call(20, -9, 0), 0);
        Due.left("20 pairs", judge, 0, 202, 20);
        for (int k = 0; k < 20; k++) {
            Due.is("key " + k, judge.pair(k, 0), 20 - k);
            Due.is("value " + k, judge.pair(k, 1), -9);
        }
        Due.is("21 pairs", judge.call(21, -9, 0), 2);
        Due.left("21 pairs", judge, 0, 2 + 20 * 10 + 3, 0);
        Due.is("no key left", judge.pair(0, 0), Due.NO_PAIR);
        Due.is("no value left", judge.pair(0, 1), Due.NO_PAIR);
        Due.is("no key left at 19", judge.pair(19, 0), Due.NO_PAIR);
        Due.is("1 pair after it", judge.call(1, 6, 0), 0);
        Due.left("1 pair after it", judge, 0, 12, 1);

        StackJudge endless = Due.program(Due.MAP, 0, 1, 0, 2, 16, 0, 14, 3);
        Due.is("a pair, then endless", endless.call(0, 0, 0), 2);
        Due.left("a pair, then endless", endless, 0, 300, 0);
        Due.is("a pair, then endless: pair(0, 0)", endless.pair(0, 0), Due.NO_PAIR);
    }

    private static void pairsOfMap() {
        StackJudge judge = Due.program(Due.MAP, 1, 0, 1, 1, 16, 0, 1, 1, 1, 0, 16, 0, 17, 0);
        Due.is("two pairs", judge.call(LEAST, MOST, 0), 0);
        Due.left("two pairs", judge, 0, 7, 2);
        Due.is("pair(0, 0)", judge.pair(0, 0), LEAST);
        Due.is("pair(0, 1)", judge.pair(0, 1), MOST);
        Due.is("pair(1, 0)", judge.pair(1, 0), MOST);
        Due.is("pair(1, 1)", judge.pair(1, 1), LEAST);
        Due.is("another call", judge.call(-1, 0, 0), 0);
        Due.left("another call", judge, 0, 7, 2);
        Due.is("pair(0, 0) of another call", judge.pair(0, 0), -1);
        Due.is("pair(0, 1) of another call", judge.pair(0, 1), 0);

        StackJudge below = Due.program(Due.MAP, 0, 9, 0, 5, 0, 6, 16, 0, 4, 0, 16, 0, 17, 0);
        Due.is("what lies below EMIT stays", below.call(0, 0, 0), 0);
        Due.is("what lies below EMIT: key", below.pair(1, 0), 9);
        Due.is("what lies below EMIT: value", below.pair(1, 1), 9);
    }

    private static void wrongPairs() {
        StackJudge judge = Due.program(Due.MAP, 0, 5, 0, 6, 16, 0, 17, 0);
        judge.call(0, 0, 0);
        for (int what : new int[] {LEAST, -1, 2, 3, MOST}) {
            Due.is("pair(0, " + what + ")", judge.pair(0, what), Due.NO_PAIR);
        }
        for (int k : new int[] {LEAST, -1, 1, 19, 20, 64, MOST}) {
            Due.is("pair(" + k + ", 0)", judge.pair(k, 0), Due.NO_PAIR);
            Due.is("pair(" + k + ", 1)", judge.pair(k, 1), Due.NO_PAIR);
        }
    }
}
