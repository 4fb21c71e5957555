import java.util.ArrayDeque;
import java.util.ArrayList;
import java.util.Deque;
import java.util.List;
import java.util.Set;
import java.util.TreeSet;

/** The document once more, with the Java library and without regard to speed. */
final class Model {
    final int kind;
    final List<int[]> rows = new ArrayList<>();
    final List<int[]> pairs = new ArrayList<>();
    int result;
    int steps;

    Model(int kind) {
        this.kind = kind;
    }

    int code(int op, int n) {
        if (rows.size() == 64) {
            return StackJudge.FULL;
        }
        rows.add(new int[] {op, n});
        return rows.size() - 1;
    }

    int clear() {
        int before = rows.size();
        rows.clear();
        return before;
    }

    int drop() {
        if (rows.isEmpty()) {
            return StackJudge.NONE;
        }
        rows.remove(rows.size() - 1);
        return rows.size();
    }

    int heights(int k) {
        return k < 0 || k >= rows.size() ? StackJudge.REFUSED : bits(k);
    }

    long pair(int k, int what) {
        boolean there = k >= 0 && k < pairs.size() && (what == 0 || what == 1);
        return there ? pairs.get(k)[what] : Due.NO_PAIR;
    }

    String row() {
        StringBuilder text = new StringBuilder();
        for (int[] one : rows) {
            text.append('(').append(one[0]).append(' ').append(one[1]).append(')');
        }
        return text.toString();
    }

    static int needs(int op, int kind) {
        if (op == 17) {
            return kind == 0 ? 0 : 1;
        }
        if (op == 5 || op >= 7 && op <= 13 || op == 16) {
            return 2;
        }
        return op == 3 || op == 4 || op == 6 || op == 15 ? 1 : 0;
    }

    static int growth(int op) {
        if (op >= 0 && op <= 2 || op == 4) {
            return 1;
        }
        if (op == 16) {
            return -2;
        }
        return op == 3 || op == 6 || op >= 7 && op <= 13 || op == 15 ? -1 : 0;
    }

    private boolean wrongByItself(int k) {
        int op = rows.get(k)[0];
        int n = rows.get(k)[1];
        if (op < 0 || op > 18 || op == 16 && kind != 0 || op == 18 && kind != 3) {
            return true;
        }
        if (op == 1) {
            return n < 0 || n > (kind == 1 || kind == 2 ? 2 : 1);
        }
        if (op == 2 || op == 3) {
            return n < 0 || n > 3;
        }
        return (op == 14 || op == 15) && (n < 0 || n >= rows.size());
    }

    private boolean endsWays(int k, int height) {
        int op = rows.get(k)[0];
        boolean next = op != 14 && op != 17 && op != 18;
        return wrongByItself(k) || next && k + 1 == rows.size()
            || height < needs(op, kind) || height + growth(op) > 8;
    }

    private List<Set<Integer>> ways() {
        List<Set<Integer>> reached = new ArrayList<>();
        for (int k = 0; k < rows.size(); k++) {
            reached.add(new TreeSet<>());
        }
        reached.get(0).add(0);
        boolean changed = true;
        while (changed) {
            changed = false;
            for (int k = 0; k < rows.size(); k++) {
                for (int height : new ArrayList<>(reached.get(k))) {
                    changed |= goOn(reached, k, height);
                }
            }
        }
        return reached;
    }

    private boolean goOn(List<Set<Integer>> reached, int k, int height) {
        int op = rows.get(k)[0];
        if (op == 17 || op == 18 || endsWays(k, height)) {
            return false;
        }
        boolean changed = op != 14 && reached.get(k + 1).add(height + growth(op));
        if (op == 14 || op == 15) {
            changed |= reached.get(rows.get(k)[1]).add(height + growth(op));
        }
        return changed;
    }

    private int bits(int k) {
        int bits = 0;
        for (int height : ways().get(k)) {
            bits += 1 << height;
        }
        return bits;
    }

    int check() {
        if (rows.isEmpty()) {
            return 64;
        }
        List<Set<Integer>> reached = ways();
        for (int k = 0; k < rows.size(); k++) {
            boolean wrong = wrongByItself(k) || reached.get(k).size() > 1;
            for (int height : reached.get(k)) {
                wrong |= endsWays(k, height);
            }
            if (wrong) {
                return k;
            }
        }
        return StackJudge.NONE;
    }

    int call(int... arguments) {
        if (check() != StackJudge.NONE) {
            return StackJudge.NONE;
        }
        result = 0;
        steps = 0;
        pairs.clear();
        int outcome = done(arguments);
        if (outcome == 2) {
            pairs.clear();
        }
        return outcome;
    }

    private int done(int[] arguments) {
        Deque<Integer> stack = new ArrayDeque<>();
        int[] locals = new int[4];
        int at = 0;
        while (steps < 300) {
            steps++;
            int op = rows.get(at)[0];
            int n = rows.get(at)[1];
            at++;
            if (op == 17) {
                result = kind == 0 ? 0 : stack.pop();
                return 0;
            } else if (op == 18) {
                return 1;
            } else if (op == 14 || op == 15 && stack.pop() == 0) {
                at = n;
            } else if (op == 16) {
                int value = stack.pop();
                pairs.add(new int[] {stack.pop(), value});
                if (pairs.size() > 20) {
                    return 2;
                }
            } else if (op == 3) {
                locals[n] = stack.pop();
            } else if (op <= 2) {
                stack.push(op == 0 ? n : op == 1 ? arguments[n] : locals[n]);
            } else if (op == 4) {
                stack.push(stack.peek());
            } else if (op == 6) {
                stack.pop();
            } else if (op != 15) {
                ofTwo(stack, op);
            }
        }
        return 2;
    }

    private static void ofTwo(Deque<Integer> stack, int op) {
        int top = stack.pop();
        int lower = stack.pop();
        if (op == 5) {
            stack.push(top);
            stack.push(lower);
            return;
        }
        long[] results = {(long) lower + top, (long) lower - top, (long) lower * top,
            top == 0 ? 0 : (long) lower / top, top == 0 ? 0 : (long) lower % top,
            lower < top ? 1 : 0, lower == top ? 1 : 0};
        stack.push((int) results[op - 7]);
    }
}
