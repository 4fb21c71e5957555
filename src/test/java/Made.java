/** Programs that several tests need, made by a number. */
final class Made {
    private Made() {
    }

    /** Goes, each to the next one: instructions that leave the stack as it is. */
    static StackJudge withGoes(int kind, int count) {
        StackJudge judge = new StackJudge(kind);
        goOn(judge, 0, count);
        return judge;
    }

    /** The numbers 1, 2, ... on the stack, as many as its height. */
    static StackJudge withNumbers(int kind, int height) {
        StackJudge judge = new StackJudge(kind);
        for (int i = 1; i <= height; i++) {
            judge.code(0, i);
        }
        return judge;
    }

    /** Ends with 77 (a MAP without it) after this many steps, from 297 to 340. */
    static StackJudge ofSteps(int kind, int steps) {
        StackJudge judge = new StackJudge(kind);
        wait(judge, 0, steps - 2);
        Due.add(judge, 0, 77, 17, 0);
        return judge;
    }

    /** Of a MAP: emits (count, b) for count from a down to 1: 2 steps, and 10 a pair. */
    static int[] countdownRow() {
        return new int[] {1, 0, 3, 0, 2, 0, 1, 1, 16, 0, 2, 0, 0, 1, 8, 0, 4, 0, 3, 0, 15, 12, 14, 2, 17, 0};
    }

    static StackJudge countdown() {
        return Due.program(Due.MAP, countdownRow());
    }

    /** A MAP that emits so many pairs, waits, emits one more at this step, and ends with the next. */
    static StackJudge emitsOneMoreAt(int pairs, int step) {
        StackJudge judge = Due.program(Due.MAP, 0, pairs, 3, 0, 2, 0, 1, 1, 16, 0, 2, 0, 0, 1, 8, 0, 4, 0);
        Due.add(judge, 3, 0, 15, 12, 14, 2);
        wait(judge, 12, step - (1 + 10 * pairs) - 3);
        Due.add(judge, 0, 1, 0, 2, 16, 0, 17, 0);
        return judge;
    }

    // A loop of 5 steps a round (its first has one more, its last one less), then goes.
    private static void wait(StackJudge judge, int at, int steps) {
        Due.add(judge, 0, steps / 5, 0, 1, 8, 0, 4, 0, 15, at + 6, 14, at + 1);
        goOn(judge, at + 6, steps % 5);
    }

    private static void goOn(StackJudge judge, int at, int count) {
        for (int i = 1; i <= count; i++) {
            judge.code(14, at + i);
        }
    }
}
