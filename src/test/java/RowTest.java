/** Promises 1 to 4: a new object, code, clear, drop. */
public final class RowTest {
    public static void main(String[] args) {
        newObject();
        kindByLowestTwoBits();
        code();
        clear();
        drop();
        Due.end();
    }

    private static void newObject() {
        for (int kind : Due.KINDS) {
            StackJudge judge = new StackJudge(kind);
            Due.is("new: check()", judge.check(), 64);
            Due.is("new: heights(0)", judge.heights(0), StackJudge.REFUSED);
            Due.is("new: call", judge.call(1, 2, 3), StackJudge.NONE);
            Due.left("new", judge, 0, 0, 0);
            Due.is("new: drop()", judge.drop(), StackJudge.NONE);
            Due.is("new: clear()", judge.clear(), 0);
        }
    }

    // EMIT is of MAP alone, op 18 of END alone, argument 2 of JOIN and FOLD alone.
    private static void kindByLowestTwoBits() {
        int[] kinds = {0, 1, 2, 3, 4, 5, 6, 7, -1, -2, -3, -4, Integer.MIN_VALUE, Integer.MAX_VALUE};
        for (int kind : kinds) {
            int low = kind & 3;
            boolean three = low == Due.JOIN || low == Due.FOLD;
            Due.checked("EMIT", low == Due.MAP ? StackJudge.NONE : 2, kind, 0, 1, 0, 2, 16, 0, 0, 3, 17, 0);
            Due.checked("op 18", low == Due.END ? StackJudge.NONE : 0, kind, 18, 0);
            Due.checked("argument 2", three ? StackJudge.NONE : 0, kind, 1, 2, 17, 0);
            Due.checked("17 alone", low == Due.MAP ? StackJudge.NONE : 0, kind, 17, 0);
        }
    }

    private static void code() {
        StackJudge judge = new StackJudge(Due.FOLD);
        for (int k = 0; k < 64; k++) {
            Due.is("code " + k, judge.code(k == 63 ? 17 : 14, k + 1), k);
        }
        Due.is("code on a full row", judge.code(0, 0), StackJudge.FULL);
        Due.is("code on a full row again", judge.code(-5, -5), StackJudge.FULL);
        Due.is("a full row: heights(63)", judge.heights(63), 1);
        Due.is("a full row: heights(64)", judge.heights(64), StackJudge.REFUSED);
        Due.is("a full row: check()", judge.check(), 63);
        Due.is("a full row: drop()", judge.drop(), 63);
        Due.is("code again", judge.code(17, 0), 63);
        Due.is("a wrong op has a number too", new StackJudge(0).code(Integer.MIN_VALUE, Integer.MAX_VALUE), 0);
    }

    private static void clear() {
        StackJudge judge = Due.program(Due.JOIN, 0, 41, 0, 1, 7, 0, 17, 0);
        Due.is("call", judge.call(0, 0, 0), 0);
        Due.is("clear()", judge.clear(), 4);
        Due.left("cleared", judge, 42, 4, 0);
        Due.is("cleared: check()", judge.check(), 64);
        Due.is("cleared: heights(0)", judge.heights(0), StackJudge.REFUSED);
        Due.is("cleared: call", judge.call(0, 0, 0), StackJudge.NONE);
        Due.is("cleared: clear()", judge.clear(), 0);
        Due.is("cleared: drop()", judge.drop(), StackJudge.NONE);
        Due.is("cleared: code", judge.code(1, 2), 0);
        judge.code(17, 0);
        Due.is("cleared: the kind stays", judge.call(7, 8, 9), 0);
        Due.is("cleared: result()", judge.result(), 9);
    }

    private static void drop() {
        StackJudge judge = Due.program(Due.JOIN, 0, 5, 0, 6, 17, 0);
        Due.is("drop()", judge.drop(), 2);
        Due.is("dropped: heights(2)", judge.heights(2), StackJudge.REFUSED);
        Due.is("dropped: check()", judge.check(), 1);
        Due.is("drop()", judge.drop(), 1);
        Due.is("code", judge.code(17, 0), 1);
        Due.is("call", judge.call(0, 0, 0), 0);
        Due.is("result()", judge.result(), 5);
        Due.is("drop()", judge.drop(), 1);
        Due.is("drop()", judge.drop(), 0);
        Due.is("drop() of none", judge.drop(), StackJudge.NONE);
        Due.left("dropped", judge, 5, 2, 0);

        StackJudge jump = Due.program(Due.MAP, 0, 0, 15, 3, 17, 0, 17, 0);
        Due.is("a jump: check()", jump.check(), StackJudge.NONE);
        jump.drop();
        Due.is("its goal dropped: check()", jump.check(), 1);
        Due.is("its goal dropped: heights(2)", jump.heights(2), 0);
    }
}
