/**
 * The boundary cases of the document's section "Terms": one method for each sentence, or part of
 * one, that names a limit, a refusal or an "if there is none"; its words stand above it.
 */
public final class TermsEdgeTest {
    private static final int NONE = StackJudge.NONE;
    private static final int LEAST = Integer.MIN_VALUE, MOST = Integer.MAX_VALUE;

    public static void main(String[] args) {
        theProgram();
        ops();
        wrong();
        waysGoOn();
        theSteps();
        Due.end();
    }

    private static void theProgram() {
        atMost64Instructions();
        noInstructionsAtFirst();
        stackOfAtMost8();
        stackHasNoneAtFirst();
        locals0To3();
        localsAre0AtFirst();
        fromItsFirstInstructionOn();
        twoOrThreeArguments();
    }

    private static void ops() {
        onTheLeastAndTheMost();
        anyN();
        theyWrap();
        cutTo0();
        signOfTheFirst();
        by0();
        lessButNotTheSame();
        bothTheSame();
        ifItIs0();
        emitMapAlone();
        keyIsTheLowerOne();
        endOfMap();
        endWithTheTop();
        endWithoutResult();
    }

    private static void wrong() {
        anotherOp();
        notOfItsProgram();
        noArgument();
        noLocal();
        noInstructionToGoTo();
        anotherHeight();
        bothWaysOfOp15();
        tooFew();
        moreThan8();
        missingNext();
        goodHasAtLeastOne();
    }

    private static void waysGoOn() {
        byEachHeight();
        notBehindWrongOp();
        notBehindWrongN();
        notBehindTooFew();
        notBehindTooMany();
        notBehindMissingNext();
    }

    private static void theSteps() {
        eachInstructionIsOneStep();
        moreThan300Steps();
        moreThan20Pairs();
        whicheverLimitComesFirst();
    }

    // "a row of at most 64 INSTRUCTIONS"
    private static void atMost64Instructions() {
        for (int kind : Due.KINDS) {
            StackJudge judge = Made.withGoes(kind, 62);
            Due.is("the 63rd instruction", judge.code(0, 9), 62);
            Due.is("the 64th instruction", judge.code(17, 0), 63);
            Due.is("the 65th instruction", judge.code(19, 0), StackJudge.FULL);
            Due.is("64 instructions: check()", judge.check(), NONE);
            Due.is("64 instructions: heights(63)", judge.heights(63), 2);
            Due.is("64 instructions: call", judge.call(1, 2, 3), 0);
            Due.left("64 instructions", judge, kind == Due.MAP ? 0 : 9, 64, 0);
        }
    }

    // "INSTRUCTIONS, none at first"
    private static void noInstructionsAtFirst() {
        for (int kind : Due.KINDS) {
            Due.is("none at first: clear()", new StackJudge(kind).clear(), 0);
            Due.is("none at first: the first number", new StackJudge(kind).code(17, 0), 0);
        }
    }

    // "on a STACK of at most 8 ints"
    private static void stackOfAtMost8() {
        for (int kind : Due.KINDS) {
            StackJudge eight = Made.withNumbers(kind, 8);
            eight.code(17, 0);
            Due.is("8 on the stack: check()", eight.check(), NONE);
            Due.is("8 on the stack: heights(8)", eight.heights(8), 256);
            Due.is("8 on the stack: call", eight.call(0, 0, 0), 0);
            Due.left("8 on the stack", eight, kind == Due.MAP ? 0 : 8, 9, 0);
            StackJudge nine = Made.withNumbers(kind, 9);
            nine.code(17, 0);
            Due.is("9 on the stack: check()", nine.check(), 8);
            Due.is("9 on the stack: heights(9)", nine.heights(9), 0);
            Due.is("9 on the stack: call", nine.call(0, 0, 0), NONE);
        }
    }

    // "a STACK of at most 8 ints (none at first)": in each call, whatever the one before left
    private static void stackHasNoneAtFirst() {
        StackJudge judge = Made.withNumbers(Due.FOLD, 7);
        Due.add(judge, 1, 0, 17, 0);
        for (int a = 1; a <= 3; a++) {
            Due.is("an empty stack for call " + a, judge.call(a, 0, 0), 0);
            Due.is("an empty stack for call " + a + ": result()", judge.result(), a);
        }
        Due.is("no height but 0 at first", judge.heights(0), 1);
        StackJudge endless = Due.program(Due.JOIN, 0, 5, 0, 6, 1, 0, 15, 2, 17, 0);
        Due.is("FAILS with two on the stack", endless.call(0, 0, 0), 2);
        Due.is("then an empty stack", endless.call(1, 0, 0), 0);
        Due.left("then an empty stack", endless, 6, 5, 0);
    }

    // "LOCALS 0 to 3": all four hold what they are given, apart from one another
    private static void locals0To3() {
        for (int n = 0; n < 4; n++) {
            StackJudge judge = Due.program(Due.END, 0, 1, 3, 0, 0, 2, 3, 1, 0, 3, 3, 2, 0, 4, 3, 3, 2, n, 17, 0);
            Due.is("local " + n + ": call", judge.call(0, 0, 0), 0);
            Due.is("local " + n + ": result()", judge.result(), n + 1);
        }
    }

    // "LOCALS 0 to 3 (0 at first)": in each call, whatever the one before left
    private static void localsAre0AtFirst() {
        for (int n = 0; n < 4; n++) {
            StackJudge judge = Due.program(Due.JOIN, 2, n, 1, 0, 3, n, 1, 1, 15, 3, 17, 0);
            Due.is("local " + n + " at first: call", judge.call(8, 1, 0), 0);
            Due.is("local " + n + " at first: result()", judge.result(), 0);
            Due.is("local " + n + " after a call: call", judge.call(9, 1, 0), 0);
            Due.is("local " + n + " after a call: result()", judge.result(), 0);
            Due.is("local " + n + " in a call that FAILS", judge.call(9, 0, 0), 2);
            Due.is("local " + n + " after it: call", judge.call(9, 1, 0), 0);
            Due.is("local " + n + " after it: result()", judge.result(), 0);
        }
    }

    // "from its first instruction on": also behind a call that ended or FAILED further on
    private static void fromItsFirstInstructionOn() {
        StackJudge judge = Due.program(Due.FOLD, 0, 7, 1, 0, 15, 1, 17, 0);
        Due.is("from the first: call", judge.call(1, 0, 0), 0);
        Due.left("from the first", judge, 7, 4, 0);
        Due.is("from the first, again: call", judge.call(2, 0, 0), 0);
        Due.left("from the first, again", judge, 7, 4, 0);
        Due.is("FAILS further on", judge.call(0, 0, 0), 2);
        Due.is("from the first, behind it: call", judge.call(3, 0, 0), 0);
        Due.left("from the first, behind it", judge, 7, 4, 0);
    }

    // "MAP and END have two arguments, JOIN and FOLD three."
    private static void twoOrThreeArguments() {
        for (int kind : Due.KINDS) {
            boolean three = kind == Due.JOIN || kind == Due.FOLD;
            Due.checked("the second argument", NONE, kind, 1, 1, 17, 0);
            Due.checked("the third argument", three ? NONE : 0, kind, 1, 2, 17, 0);
            Due.checked("a fourth argument", 0, kind, 1, 3, 17, 0);
        }
        Due.results("the third argument of JOIN", 12, Due.JOIN, 10, 11, 12, 1, 2, 17, 0);
        Due.results("the third argument of FOLD", 12, Due.FOLD, 10, 11, 12, 1, 2, 17, 0);
        Due.results("the second argument of END", 11, Due.END, 10, 11, 12, 1, 1, 17, 0);
    }

    // What each op leaves, with no more on the stack than it needs, and with as many as there may be.
    private static void onTheLeastAndTheMost() {
        for (int op : new int[] {0, 1, 2}) {
            leaves(op, 0, 1);
            leaves(op, 7, 8);
        }
        leaves(4, 1, 2);
        leaves(4, 7, 8);
        leaves(5, 2, 2);
        leaves(5, 8, 8);
        leaves(14, 0, 0);
        leaves(14, 8, 8);
        for (int op : new int[] {3, 6, 15}) {
            leaves(op, 1, 0);
            leaves(op, 8, 7);
        }
        for (int op = 7; op <= 13; op++) {
            leaves(op, 2, 1);
            leaves(op, 8, 7);
        }
        leaves(16, 2, 0);
        leaves(16, 8, 6);
        for (int height : new int[] {2, 8}) {
            topAfter(5, height, height - 1);
            topAfter(6, height, height - 1);
            topAfter(3, height, height - 1);
            topAfter(15, height, height - 1);
            topAfter(7, height, height + height - 1);
            topAfter(8, height, -1);
            topAfter(13, height, 0);
        }
        topAfter(4, 1, 1);
        topAfter(4, 7, 7);
        Due.results("the top goes below the other one", 9, Due.JOIN, 8, 9, 0, 1, 0, 1, 1, 5, 0, 6, 0, 17, 0);
    }

    private static void leaves(int op, int height, int after) {
        StackJudge judge = Made.withNumbers(Due.MAP, height);
        Due.add(judge, op, op == 14 || op == 15 ? height + 1 : 0, 17, 0);
        Due.is("op " + op + " on " + height + ": check()", judge.check(), NONE);
        Due.is("op " + op + " on " + height + ": heights behind it", judge.heights(height + 1), 1 << after);
    }

    /** The numbers 1 to height, then the op: what is on top then. */
    private static void topAfter(int op, int height, int want) {
        StackJudge judge = Made.withNumbers(Due.FOLD, height);
        Due.add(judge, op, op == 15 ? height + 1 : 0, 17, 0);
        Due.is("op " + op + " on " + height + ": call", judge.call(0, 0, 0), 0);
        Due.is("op " + op + " on " + height + ": the top behind it", judge.result(), want);
    }

    // "0 N on the stack": any int; and where an op has no use for N, any N is right
    private static void anyN() {
        for (int n : new int[] {LEAST, -1, 0, 64, MOST}) {
            Due.results("the number " + n, n, Due.JOIN, 0, 0, 0, 0, n, 17, n);
            for (int op = 7; op <= 13; op++) {
                Due.checked("op " + op + " with N " + n, NONE, Due.JOIN, 0, 1, 0, 1, op, n, 17, n);
            }
            Due.checked("ops 4, 5, 6 with N " + n, NONE, Due.JOIN, 0, 1, 4, n, 5, n, 6, n, 17, n);
            Due.checked("EMIT with N " + n, NONE, Due.MAP, 0, 1, 0, 1, 16, n, 17, n);
            Due.checked("18 with N " + n, NONE, Due.END, 18, n);
        }
    }

    private static void ofTwo(int op, int lower, int top, int want) {
        Due.results(lower + " op " + op + " " + top, want, Due.FOLD, lower, top, 0, 1, 0, 1, 1, op, 0, 17, 0);
    }

    // "7 to 11 (+ - * / %) of the two on top ...: (they wrap"
    private static void theyWrap() {
        ofTwo(7, MOST, 1, LEAST);
        ofTwo(7, LEAST, -1, MOST);
        ofTwo(7, LEAST, LEAST, 0);
        ofTwo(8, LEAST, 1, MOST);
        ofTwo(8, MOST, -1, LEAST);
        ofTwo(8, 0, LEAST, LEAST);
        ofTwo(9, 65536, 32768, LEAST);
        ofTwo(9, 65537, 65537, 131073);
        ofTwo(9, LEAST, -1, LEAST);
        ofTwo(10, LEAST, -1, LEAST);
        ofTwo(11, LEAST, -1, 0);
    }

    // "/ cut to 0"
    private static void cutTo0() {
        ofTwo(10, 7, 2, 3);
        ofTwo(10, -7, 2, -3);
        ofTwo(10, 7, -2, -3);
        ofTwo(10, -7, -2, 3);
        ofTwo(10, 1, MOST, 0);
        ofTwo(10, -1, MOST, 0);
        ofTwo(10, MOST, LEAST, 0);
    }

    // "% with the sign of the first"
    private static void signOfTheFirst() {
        ofTwo(11, 7, 3, 1);
        ofTwo(11, -7, 3, -1);
        ofTwo(11, 7, -3, 1);
        ofTwo(11, -7, -3, -1);
        ofTwo(11, 6, 3, 0);
        ofTwo(11, LEAST, MOST, -1);
        ofTwo(11, MOST, LEAST, MOST);
    }

    // "by 0: 0"
    private static void by0() {
        for (int lower : new int[] {LEAST, -1, 0, 1, MOST}) {
            ofTwo(10, lower, 0, 0);
            ofTwo(11, lower, 0, 0);
        }
    }

    // "12: 1 if the lower one of the two on top is less, else 0"
    private static void lessButNotTheSame() {
        ofTwo(12, 4, 5, 1);
        ofTwo(12, 5, 5, 0);
        ofTwo(12, 6, 5, 0);
        ofTwo(12, LEAST, MOST, 1);
        ofTwo(12, MOST, LEAST, 0);
        ofTwo(12, LEAST, LEAST, 0);
    }

    // "13: 1 if both are the same, else 0"
    private static void bothTheSame() {
        ofTwo(13, 5, 5, 1);
        ofTwo(13, 4, 5, 0);
        ofTwo(13, 6, 5, 0);
        ofTwo(13, LEAST, LEAST, 1);
        ofTwo(13, LEAST, MOST, 0);
        ofTwo(13, 1000, 1000, 1);
    }

    // "15 the top goes; if it is 0: go to N"
    private static void ifItIs0() {
        for (int a : new int[] {LEAST, -1, 0, 1, MOST}) {
            Due.results("the top is " + a, a == 0 ? 200 : 100, Due.JOIN, a, 0, 0,
                1, 0, 15, 4, 0, 100, 17, 0, 0, 200, 17, 0);
        }
        StackJudge goes = Due.program(Due.JOIN, 0, 5, 0, 0, 15, 3, 17, 0);
        Due.is("the top goes: heights", goes.heights(3), 2);
        Due.is("the top goes: call", goes.call(0, 0, 0), 0);
        Due.is("the top goes: result()", goes.result(), 5);
    }

    // "16 EMIT (MAP alone)"
    private static void emitMapAlone() {
        for (int kind : Due.KINDS) {
            Due.checked("EMIT", kind == Due.MAP ? NONE : 3, kind, 0, 1, 0, 1, 0, 1, 16, 0, 17, 0);
        }
    }

    // "key (the lower one) and value go, as a PAIR"
    private static void keyIsTheLowerOne() {
        StackJudge judge = Due.program(Due.MAP, 1, 0, 1, 1, 16, 0, 17, 0);
        Due.is("EMIT: call", judge.call(LEAST, MOST, 0), 0);
        Due.is("the lower one is the key", judge.pair(0, 0), LEAST);
        Due.is("the top is the value", judge.pair(0, 1), MOST);
        Due.is("both go", judge.heights(3), 1);
    }

    // "17 the end (of MAP: nothing is on the stack or something, it does not matter"
    private static void endOfMap() {
        for (int height = 0; height <= 8; height++) {
            StackJudge judge = Made.withNumbers(Due.MAP, height);
            judge.code(17, 0);
            Due.is("end of MAP at height " + height + ": check()", judge.check(), NONE);
            Due.is("end of MAP at height " + height + ": call", judge.call(5, 6, 7), 0);
            Due.left("end of MAP at height " + height, judge, 0, height + 1, 0);
        }
    }

    // "of JOIN and FOLD: the top is the result; of END: the top is the result"
    private static void endWithTheTop() {
        for (int kind : new int[] {Due.JOIN, Due.FOLD, Due.END}) {
            for (int height = 1; height <= 8; height++) {
                StackJudge judge = Made.withNumbers(kind, height);
                judge.code(17, 0);
                Due.is("end at height " + height + ": call", judge.call(5, 6, 7), 0);
                Due.left("end at height " + height, judge, height, height + 1, 0);
            }
        }
    }

    // "18 the end without result (END alone)"
    private static void endWithoutResult() {
        for (int height = 0; height <= 8; height++) {
            StackJudge judge = Made.withNumbers(Due.END, height);
            judge.code(18, 0);
            Due.is("18 at height " + height + ": check()", judge.check(), NONE);
            Due.is("18 at height " + height + ": call", judge.call(5, 6, 7), 1);
            Due.left("18 at height " + height, judge, 0, height + 1, 0);
        }
        for (int kind : new int[] {Due.MAP, Due.JOIN, Due.FOLD}) {
            Due.checked("18 of another kind", 1, kind, 0, 1, 18, 0);
        }
    }

    // "WRONG is an instruction of another OP"
    private static void anotherOp() {
        for (int kind : Due.KINDS) {
            for (int op : new int[] {LEAST, -1, 19, 31, 64, 256, MOST}) {
                Due.checked("op " + op, 1, kind, 0, 1, op, 0, 17, 0);
                Due.checked("op " + op + " where no way comes", 2, kind, 0, 1, 17, 0, op, 0, 17, 0);
            }
        }
    }

    // "or one that is not of its program"
    private static void notOfItsProgram() {
        for (int kind : Due.KINDS) {
            Due.checked("EMIT where no way comes", kind == Due.MAP ? NONE : 2, kind, 0, 1, 17, 0, 16, 0, 17, 0);
            Due.checked("18 where no way comes", kind == Due.END ? NONE : 2, kind, 0, 1, 17, 0, 18, 0, 17, 0);
        }
    }

    // "with an N that is no argument"
    private static void noArgument() {
        for (int kind : Due.KINDS) {
            int last = kind == Due.JOIN || kind == Due.FOLD ? 2 : 1;
            for (int n : new int[] {LEAST, -1, 0, last, last + 1, 64, MOST}) {
                boolean there = n >= 0 && n <= last;
                Due.checked("argument " + n, there ? NONE : 0, kind, 1, n, 17, 0);
                Due.checked("argument " + n + " where no way comes", there ? NONE : 2, kind, 0, 1, 17, 0, 1, n, 17, 0);
            }
        }
    }

    // "[no] local (0 to 3)"
    private static void noLocal() {
        for (int kind : Due.KINDS) {
            for (int n : new int[] {LEAST, -1, 0, 3, 4, 64, MOST}) {
                boolean there = n >= 0 && n <= 3;
                Due.checked("local " + n, there ? NONE : 0, kind, 2, n, 17, 0);
                Due.checked("to local " + n, there ? NONE : 1, kind, 0, 1, 3, n, 0, 1, 17, 0);
                Due.checked("local " + n + " where no way comes", there ? NONE : 2, kind, 0, 1, 17, 0, 2, n, 17, 0);
                Due.checked("to local " + n + " where no way comes", there ? NONE : 2, kind, 0, 1, 17, 0, 3, n, 17, 0);
            }
        }
    }

    // "or [no] instruction it goes to"
    private static void noInstructionToGoTo() {
        for (int kind : Due.KINDS) {
            for (int n : new int[] {LEAST, -1, 4, 5, 63, 64, MOST}) {
                Due.checked("go to " + n, 1, kind, 0, 1, 14, n, 0, 1, 17, 0);
                Due.checked("if 0 go to " + n, 1, kind, 0, 1, 15, n, 0, 1, 17, 0);
                Due.checked("go to " + n + " where no way comes", 2, kind, 0, 1, 17, 0, 14, n, 17, 0);
                Due.checked("if 0 go to " + n + " where no way comes", 2, kind, 0, 1, 17, 0, 15, n, 17, 0);
            }
            Due.checked("go to the last", NONE, kind, 0, 1, 14, 3, 0, 1, 17, 0);
            Due.checked("go to itself", NONE, kind, 0, 1, 14, 1, 0, 1, 17, 0);
            Due.checked("if 0 go to the first", NONE, kind, 0, 1, 15, 0, 0, 1, 17, 0);
            Due.checked("go to the last where no way comes", NONE, kind, 0, 1, 17, 0, 14, 3, 17, 0);
        }
        StackJudge full = Made.withGoes(Due.MAP, 63);
        full.code(14, 63);
        Due.is("go to 63 of 64: check()", full.check(), NONE);
        full.drop();
        full.code(14, 64);
        Due.is("go to 64 of 64: check()", full.check(), 63);
    }

    // "reached ... with another height of the stack than before": also where a height matters least
    private static void anotherHeight() {
        Due.checked("the end of MAP with 0 and 1", 3, Due.MAP, 1, 0, 15, 3, 0, 5, 17, 0);
        Due.checked("18 with 0 and 1", 3, Due.END, 1, 0, 15, 3, 0, 5, 18, 0);
        Due.checked("a go with 0 and 1", 3, Due.JOIN, 1, 0, 15, 3, 0, 5, 14, 3);
        Due.checked("the first, by a way back", 0, Due.MAP, 14, 1, 0, 1, 14, 0);
        Due.checked("7 and 8", 10, Due.JOIN, 0, 1, 0, 2, 0, 3, 0, 4, 0, 5, 0, 6, 0, 7, 0, 8, 15, 10, 0, 9, 17, 0);
        Due.checked("with 8, then 7", 8, Due.JOIN, 0, 1, 0, 2, 0, 3, 0, 4, 0, 5, 0, 6, 0, 7, 0, 8, 15, 8, 17, 0);
        Due.checked("the same height by both ways", NONE, Due.JOIN, 1, 0, 15, 4, 0, 5, 14, 5, 0, 6, 17, 0);
    }

    // "(from the first on, by both ways of op 15)"
    private static void bothWaysOfOp15() {
        Due.checked("too few on the way that goes", 4, Due.MAP, 0, 1, 15, 4, 14, 3, 17, 0, 6, 0, 17, 0);
        Due.checked("too few on the way that does not go", 2, Due.MAP, 0, 0, 15, 4, 6, 0, 17, 0, 17, 0);
        StackJudge both = Due.program(Due.MAP, 0, 0, 15, 3, 17, 0, 17, 0);
        Due.reached("both ways, whatever the top is", both, 1, 2, 1, 1);
        // 2^31 ways, too many to be followed one by one.
        StackJudge many = new StackJudge(Due.FOLD);
        for (int k = 0; k < 62; k += 2) {
            Due.add(many, 1, 0, 15, k + 2);
        }
        Due.add(many, 1, 2, 17, 0);
        Due.is("many ways: check()", many.check(), NONE);
        for (int k = 0; k < 64; k++) {
            Due.is("many ways: heights(" + k + ")", many.heights(k), k % 2 == 0 ? 1 : 2);
        }
        Due.is("many ways: call", many.call(0, 0, 6), 0);
        Due.left("many ways", many, 6, 64, 0);
        StackJudge behindGo = Due.program(Due.MAP, 14, 2, 6, 0, 17, 0);
        Due.is("op 14 has one way: check()", behindGo.check(), NONE);
        Due.reached("op 14 has one way", behindGo, 1, 0, 1);
    }

    // "with too few on it (12 and 13 need 2 like 7 to 11, 16 2, 5 2, 4, 6, 3, 15 1, 17 of JOIN, FOLD, END 1)"
    private static void tooFew() {
        int[] needTwo = {5, 7, 8, 9, 10, 11, 12, 13};
        int[] needOne = {3, 4, 6, 15};
        int[] needNone = {0, 1, 2, 14};
        for (int kind : Due.KINDS) {
            for (int op : needTwo) {
                needs(op, kind, 2);
            }
            for (int op : needOne) {
                needs(op, kind, 1);
            }
            for (int op : needNone) {
                needs(op, kind, 0);
            }
            needs(17, kind, kind == Due.MAP ? 0 : 1);
        }
        needs(16, Due.MAP, 2);
        needs(18, Due.END, 0);
    }

    private static void needs(int op, int kind, int need) {
        for (int height = 0; height <= 3; height++) {
            StackJudge judge = Made.withNumbers(kind, height);
            judge.code(op, op == 14 || op == 15 ? height + 1 : 0);
            judge.code(14, height + 1);
            Due.is("op " + op + " of kind " + kind + " with " + height + " on the stack: check()",
                judge.check(), height < need ? height : NONE);
        }
    }

    // "so that it would have more than 8"
    private static void moreThan8() {
        for (int kind : Due.KINDS) {
            for (int op : new int[] {0, 1, 2, 4}) {
                growsAt(7, NONE, op, kind);
                growsAt(8, 8, op, kind);
            }
            for (int op : new int[] {3, 5, 6, 7, 8, 9, 10, 11, 12, 13, 14, 15}) {
                growsAt(8, NONE, op, kind);
            }
        }
        growsAt(8, NONE, 16, Due.MAP);
    }

    private static void growsAt(int height, int want, int op, int kind) {
        StackJudge judge = Made.withNumbers(kind, height);
        judge.code(op, op == 14 || op == 15 ? height + 1 : 0);
        judge.code(14, height + 1);
        Due.is("op " + op + " of kind " + kind + " on " + height + ": check()", judge.check(), want);
    }

    // "or after which an instruction would come that is not there"
    private static void missingNext() {
        for (int kind : Due.KINDS) {
            for (int op = 0; op <= 13; op++) {
                lastIs(op, 2, kind);
            }
            lastIs(15, 2, kind);
            lastIs(14, NONE, kind);
            lastIs(17, NONE, kind);
        }
        lastIs(16, 2, Due.MAP);
        lastIs(18, NONE, Due.END);
        StackJudge full = Made.withGoes(Due.MAP, 63);
        full.code(0, 1);
        Due.is("the 64th has no next: check()", full.check(), 63);
        Due.checked("where no way comes", NONE, Due.MAP, 17, 0, 0, 1);
    }

    private static void lastIs(int op, int want, int kind) {
        StackJudge judge = Made.withNumbers(kind, 2);
        judge.code(op, op == 14 ? 2 : 0);
        Due.is("op " + op + " of kind " + kind + " as the last: check()", judge.check(), want);
        Due.is("op " + op + " of kind " + kind + " as the last: heights(2)", judge.heights(2), 4);
    }

    // "The program is GOOD if it has no WRONG one, and at least one instruction."
    private static void goodHasAtLeastOne() {
        for (int kind : Due.KINDS) {
            StackJudge judge = new StackJudge(kind);
            Due.is("no instruction: call", judge.call(0, 0, 0), NONE);
            judge.code(14, 0);
            Due.is("one instruction: check()", judge.check(), NONE);
            Due.is("one instruction: call", judge.call(0, 0, 0), 2);
            judge.code(-1, 0);
            Due.is("one WRONG one: call", judge.call(0, 0, 0), NONE);
            judge.drop();
            Due.is("without it: call", judge.call(0, 0, 0), 2);
        }
    }

    // "Ways go on behind an instruction by each height with which it is reached"
    private static void byEachHeight() {
        StackJudge two = Due.program(Due.MAP, 1, 0, 15, 3, 0, 5, 2, 0, 2, 1, 17, 0);
        Due.is("two heights: check()", two.check(), 3);
        Due.reached("two heights", two, 1, 2, 1, 3, 6, 12);
        Due.reached("all heights", Due.program(Due.JOIN, 0, 7, 14, 0), 511, 510);
        StackJudge later = Due.program(Due.MAP, 1, 0, 15, 4, 0, 5, 14, 4, 14, 5, 14, 6, 17, 0);
        Due.reached("the second height comes later", later, 1, 2, 1, 2, 3, 3, 3);
    }

    // "but not behind one that is WRONG by its OP"
    private static void notBehindWrongOp() {
        for (int op : new int[] {LEAST, -1, 19, MOST}) {
            Due.reached("behind op " + op, Due.program(Due.MAP, 0, 1, op, 0, 17, 0), 1, 2, 0);
        }
        Due.reached("behind EMIT of FOLD", Due.program(Due.FOLD, 0, 1, 4, 0, 16, 0, 17, 0), 1, 2, 4, 0);
        Due.reached("behind 18 of FOLD", Due.program(Due.FOLD, 0, 1, 18, 0, 17, 0), 1, 2, 0);
        Due.reached("behind 18 of END", Due.program(Due.END, 0, 1, 18, 0, 17, 0), 1, 2, 0);
    }

    // "N": neither to the next one nor to where it would go
    private static void notBehindWrongN() {
        for (int n : new int[] {LEAST, -1, 4, MOST}) {
            Due.reached("behind argument " + n, Due.program(Due.JOIN, 1, n, 17, 0), 1, 0);
            Due.reached("behind local " + n, Due.program(Due.JOIN, 2, n, 17, 0), 1, 0);
            Due.reached("behind to local " + n, Due.program(Due.JOIN, 0, 1, 3, n, 17, 0), 1, 2, 0);
            Due.reached("behind if 0 go to " + n, Due.program(Due.JOIN, 0, 1, 15, n, 17, 0), 1, 2, 0);
            Due.reached("behind go to " + n, Due.program(Due.JOIN, 0, 1, 14, n, 17, 0), 1, 2, 0);
        }
    }

    // "too few": the way with too few ends, a way with enough goes on
    private static void notBehindTooFew() {
        Due.reached("behind a + with one", Due.program(Due.MAP, 0, 1, 7, 0, 17, 0), 1, 2, 0);
        Due.reached("behind a 15 with none", Due.program(Due.MAP, 15, 2, 17, 0, 17, 0), 1, 0, 0);
        Due.reached("behind an EMIT with one", Due.program(Due.MAP, 0, 1, 16, 0, 17, 0), 1, 2, 0);
        StackJudge split = Due.program(Due.MAP, 1, 0, 15, 3, 0, 5, 6, 0, 17, 0);
        Due.is("one way has enough: check()", split.check(), 3);
        Due.reached("one way has enough", split, 1, 2, 1, 3, 1);
    }

    // "or too many": the way with too many ends, a way with fewer goes on
    private static void notBehindTooMany() {
        for (int op : new int[] {0, 1, 2, 4}) {
            StackJudge judge = Made.withNumbers(Due.END, 8);
            Due.add(judge, op, 0, 17, 0);
            Due.is("too many by op " + op + ": heights(8)", judge.heights(8), 256);
            Due.is("too many by op " + op + ": heights(9)", judge.heights(9), 0);
        }
        StackJudge split = Made.withNumbers(Due.JOIN, 8);
        Due.add(split, 15, 10, 0, 5, 0, 6, 17, 0);
        Due.is("one way has fewer: check()", split.check(), 10);
        Due.is("one way has fewer: heights(10)", split.heights(10), 128 + 256);
        Due.is("one way has fewer: heights(11)", split.heights(11), 256);
    }

    // "or the missing next one": op 15 does not even go to N then
    private static void notBehindMissingNext() {
        StackJudge back = Due.program(Due.MAP, 14, 2, 17, 0, 0, 1, 15, 1);
        Due.is("op 15 without a next one: check()", back.check(), 3);
        Due.reached("op 15 without a next one", back, 1, 0, 1, 2);
        back.code(17, 0);
        Due.is("with a next one: check()", back.check(), NONE);
        Due.reached("with a next one", back, 1, 1, 1, 2, 1);
    }

    // "STEPS: each instruction done is one.": the end too, and none that is jumped over
    private static void eachInstructionIsOneStep() {
        StackJudge end = Due.program(Due.MAP, 17, 0);
        end.call(0, 0, 0);
        Due.is("the end alone: steps()", end.steps(), 1);
        StackJudge without = Due.program(Due.END, 18, 0);
        without.call(0, 0, 0);
        Due.is("18 alone: steps()", without.steps(), 1);
        StackJudge over = Due.program(Due.MAP, 14, 2, 14, 1, 0, 0, 15, 5, 14, 1, 17, 0);
        over.call(0, 0, 0);
        Due.is("jumped over: steps()", over.steps(), 4);
    }

    // "A call with more than 300 STEPS ... FAILS."
    private static void moreThan300Steps() {
        for (int kind : Due.KINDS) {
            for (int steps = 298; steps <= 303; steps++) {
                StackJudge judge = Made.ofSteps(kind, steps);
                boolean fails = steps > 300;
                Due.is(steps + " steps: check()", judge.check(), NONE);
                Due.is(steps + " steps: call", judge.call(0, 0, 0), fails ? 2 : 0);
                Due.left(steps + " steps", judge, fails || kind == Due.MAP ? 0 : 77, fails ? 300 : steps, 0);
            }
        }
        StackJudge without = Made.ofSteps(Due.END, 300);
        without.drop();
        without.code(18, 0);
        Due.is("18 as the 300th step: call", without.call(0, 0, 0), 1);
        Due.left("18 as the 300th step", without, 0, 300, 0);
    }

    // "or of MAP with more than 20 PAIRS, FAILS."
    private static void moreThan20Pairs() {
        StackJudge judge = Made.countdown();
        for (int count = 1; count <= 20; count++) {
            Due.is(count + " pairs: call", judge.call(count, 5, 0), 0);
            Due.left(count + " pairs", judge, 0, 2 + 10 * count, count);
        }
        for (int count = 21; count <= 23; count++) {
            Due.is(count + " pairs: call", judge.call(count, 5, 0), 2);
            Due.left(count + " pairs", judge, 0, 205, 0);
        }
    }

    // Both limits in one program: the 21st EMIT as step 299, 300, or after the last that is allowed.
    private static void whicheverLimitComesFirst() {
        for (int late = 298; late <= 302; late++) {
            StackJudge judge = Made.emitsOneMoreAt(20, late);
            Due.is("the 21st pair at step " + late + ": check()", judge.check(), NONE);
            Due.is("the 21st pair at step " + late + ": call", judge.call(0, 0, 0), 2);
            Due.left("the 21st pair at step " + late, judge, 0, Math.min(late, 300), 0);
        }
        for (int late = 298; late <= 301; late++) {
            StackJudge judge = Made.emitsOneMoreAt(19, late);
            boolean fails = late + 1 > 300;
            Due.is("the 20th pair at step " + late + ": call", judge.call(0, 0, 0), fails ? 2 : 0);
            Due.left("the 20th pair at step " + late, judge, 0, Math.min(late + 1, 300), fails ? 0 : 20);
        }
    }
}
