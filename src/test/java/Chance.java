/** Made-up numbers and instructions, from a fixed row, so that every run of a test asks the same. */
final class Chance {
    private long seed;

    Chance(long seed) {
        this.seed = seed;
    }

    int below(int bound) {
        seed = seed * 6364136223846793005L + 1442695040888963407L;
        return (int) ((seed >>> 33) % bound);
    }

    int anyInt() {
        below(2);
        return (int) (seed >>> 20);
    }

    /** An op that a way along the row could do with this height. */
    int fittingOp(int height, int kind) {
        for (int tries = 0; tries < 50; tries++) {
            int op = below(18);
            if (height >= Model.needs(op, kind) && height + Model.growth(op) <= 8
                && (op != 16 || kind == Due.MAP) && (op != 17 || below(4) == 0)) {
                return op;
            }
        }
        return 0;
    }

    /** Mostly an N that is right for the op in a program of this size. */
    int operand(int op, int size) {
        if (below(60) == 0) {
            return below(80) - 8;
        }
        switch (op) {
            case 0:
                return below(5) == 0 ? anyInt() : below(5) - 2;
            case 1:
                return below(2);
            case 2: case 3:
                return below(4);
            default:
                return below(size);
        }
    }
}
