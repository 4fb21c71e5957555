import java.util.ArrayDeque;
import java.util.ArrayList;
import java.util.Deque;
import java.util.List;
import java.util.Set;
import java.util.TreeSet;

/**
 * Many made-up programs, each answer compared with that of a second, plain reading of the
 * document. The numbers come from a fixed row, so every run asks the same.
 */
public final class ModelTest {
    private static long seed = 20261115L;

    public static void main(String[] args) {
        int good = 0;
        int failing = 0;
        for (int round = 0; round < 60000; round++) {
            Model model = new Model(below(4));
            StackJudge judge = new StackJudge(model.kind);
            fill(model, judge);
            String what = "round " + round + " kind " + model.kind + " " + model.row();
            compare(what, model, judge);
            if (model.check() == StackJudge.NONE) {
                good++;
                failing += model.outcome == 2 ? 1 : 0;
            }
        }
        // Programs of all sorts must have come up, or the comparison says little.
        Due.is("at least 5000 GOOD programs of " + good, good >= 5000 ? 1 : 0, 1);
        Due.is("at least 100 that FAIL of " + failing, failing >= 100 ? 1 : 0, 1);
        Due.end();
    }

    private static int below(int bound) {
        seed = seed * 6364136223846793005L + 1442695040888963407L;
        return (int) ((seed >>> 33) % bound);
    }

    /** Mostly instructions that fit the height along the row; now and then any at all. */
    private static void fill(Model model, StackJudge judge) {
        int size = below(12) == 0 ? 20 + below(45) : 1 + below(12);
        int wildness = below(3) == 0 ? 6 : 60;
        int height = 0;
        for (int k = 0; k < size - 1; k++) {
            int op = below(wildness) == 0 ? below(22) - 1 : fitting(height, model.kind);
            add(model, judge, op, operand(op, size));
            height = Math.max(0, Math.min(8, height + Model.growth(op)));
        }
        add(model, judge, below(8) == 0 ? below(19) : 17, below(size));
    }

    private static int fitting(int height, int kind) {
        for (int tries = 0; tries < 50; tries++) {
            int op = below(18);
            if (height >= Model.needs(op, kind) && height + Model.growth(op) <= 8
                && (op != 16 || kind == 0) && (op != 17 || below(4) == 0)) {
                return op;
            }
        }
        return 0;
    }

    private static int operand(int op, int size) {
        if (below(60) == 0) {
            return below(80) - 8;
        }
        switch (op) {
            case 0:
                return below(5) == 0 ? (int) (seed >>> 20) : below(5) - 2;
            case 1:
                return below(2);
            case 2: case 3:
                return below(4);
            default:
                return below(size);
        }
    }

    private static void add(Model model, StackJudge judge, int op, int n) {
        model.rows.add(new int[] {op, n});
        judge.code(op, n);
    }

    private static void compare(String what, Model model, StackJudge judge) {
        Due.is(what + ": check()", judge.check(), model.check());
        for (int k = 0; k < model.rows.size(); k++) {
            Due.is(what + ": heights(" + k + ")", judge.heights(k), model.bits(k));
        }
        int a = below(9) - 3;
        int b = below(9) - 3;
        int c = below(9) - 3;
        Due.is(what + ": call", judge.call(a, b, c), model.call(a, b, c));
        Due.left(what, judge, model.result, model.steps, model.pairs.size());
        for (int k = 0; k < model.pairs.size(); k++) {
            Due.is(what + ": key " + k, judge.pair(k, 0), model.pairs.get(k)[0]);
            Due.is(what + ": value " + k, judge.pair(k, 1), model.pairs.get(k)[1]);
        }
    }

    /** The document once more, with the Java library and without regard to speed. */
    private static final class Model {
        final int kind;
        final List<int[]> rows = new ArrayList<>();
        final List<int[]> pairs = new ArrayList<>();
        int result;
        int steps;
        int outcome = StackJudge.NONE;

        Model(int kind) {
            this.kind = kind;
        }

        String row() {
            StringBuilder text = new StringBuilder();
            for (int[] one : rows) {
                text.append('(').append(one[0]).append(' ').append(one[1]).append(')');
            }
            return text.toString();
        }

        static int needs(int op, int kind) {
            if (op == 17) {
                return kind == 0 ? 0 : 1;
            }
            if (op == 5 || op >= 7 && op <= 13 || op == 16) {
                return 2;
            }
            return op == 3 || op == 4 || op == 6 || op == 15 ? 1 : 0;
        }

        static int growth(int op) {
            if (op >= 0 && op <= 2 || op == 4) {
                return 1;
            }
            if (op == 16) {
                return -2;
            }
            return op == 3 || op == 6 || op >= 7 && op <= 13 || op == 15 ? -1 : 0;
        }

        boolean wrongByItself(int k) {
            int op = rows.get(k)[0];
            int n = rows.get(k)[1];
            if (op < 0 || op > 18 || op == 16 && kind != 0 || op == 18 && kind != 3) {
                return true;
            }
            if (op == 1) {
                return n < 0 || n > (kind == 1 || kind == 2 ? 2 : 1);
            }
            if (op == 2 || op == 3) {
                return n < 0 || n > 3;
            }
            return (op == 14 || op == 15) && (n < 0 || n >= rows.size());
        }

        boolean endsWays(int k, int height) {
            int op = rows.get(k)[0];
            boolean next = op != 14 && op != 17 && op != 18;
            return wrongByItself(k) || next && k + 1 == rows.size()
                || height < needs(op, kind) || height + growth(op) > 8;
        }

        List<Set<Integer>> ways() {
            List<Set<Integer>> reached = new ArrayList<>();
            for (int k = 0; k < rows.size(); k++) {
                reached.add(new TreeSet<>());
            }
            reached.get(0).add(0);
            boolean changed = true;
            while (changed) {
                changed = false;
                for (int k = 0; k < rows.size(); k++) {
                    for (int height : new ArrayList<>(reached.get(k))) {
                        changed |= goOn(reached, k, height);
                    }
                }
            }
            return reached;
        }

        private boolean goOn(List<Set<Integer>> reached, int k, int height) {
            int op = rows.get(k)[0];
            if (op == 17 || op == 18 || endsWays(k, height)) {
                return false;
            }
            boolean changed = op != 14 && reached.get(k + 1).add(height + growth(op));
            if (op == 14 || op == 15) {
                changed |= reached.get(rows.get(k)[1]).add(height + growth(op));
            }
            return changed;
        }

        int bits(int k) {
            int bits = 0;
            for (int height : ways().get(k)) {
                bits += 1 << height;
            }
            return bits;
        }

        int check() {
            List<Set<Integer>> reached = ways();
            for (int k = 0; k < rows.size(); k++) {
                boolean wrong = wrongByItself(k) || reached.get(k).size() > 1;
                for (int height : reached.get(k)) {
                    wrong |= endsWays(k, height);
                }
                if (wrong) {
                    return k;
                }
            }
            return StackJudge.NONE;
        }

        int call(int... arguments) {
            if (check() == StackJudge.NONE) {
                outcome = done(arguments);
                if (outcome == 2) {
                    pairs.clear();
                }
            }
            return outcome;
        }

        private int done(int[] arguments) {
            Deque<Integer> stack = new ArrayDeque<>();
            int[] locals = new int[4];
            int at = 0;
            while (steps < 300) {
                steps++;
                int op = rows.get(at)[0];
                int n = rows.get(at)[1];
                at++;
                if (op == 17) {
                    result = kind == 0 ? 0 : stack.pop();
                    return 0;
                } else if (op == 18) {
                    return 1;
                } else if (op == 14 || op == 15 && stack.pop() == 0) {
                    at = n;
                } else if (op == 16) {
                    int value = stack.pop();
                    pairs.add(new int[] {stack.pop(), value});
                    if (pairs.size() > 20) {
                        return 2;
                    }
                } else if (op == 3) {
                    locals[n] = stack.pop();
                } else if (op <= 2) {
                    stack.push(op == 0 ? n : op == 1 ? arguments[n] : locals[n]);
                } else if (op == 4) {
                    stack.push(stack.peek());
                } else if (op == 6) {
                    stack.pop();
                } else if (op != 15) {
                    ofTwo(stack, op);
                }
            }
            return 2;
        }

        private static void ofTwo(Deque<Integer> stack, int op) {
            int top = stack.pop();
            int lower = stack.pop();
            if (op == 5) {
                stack.push(top);
                stack.push(lower);
                return;
            }
            long[] results = {(long) lower + top, (long) lower - top, (long) lower * top,
                top == 0 ? 0 : (long) lower / top, top == 0 ? 0 : (long) lower % top,
                lower < top ? 1 : 0, lower == top ? 1 : 0};
            stack.push((int) results[op - 7]);
        }
    }
}
