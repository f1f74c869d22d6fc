import java.math.BigInteger;

/** The document once more, way by way and with other means than the program's. */
final class Model {
    static final long ILLEGAL = Long.MIN_VALUE;
    static final long NONE = Long.MIN_VALUE + 1;

    private static final BigInteger WHOLE = BigInteger.valueOf(65536);
    private static final BigInteger HALF = BigInteger.valueOf(32768);

    private final int[][] slots = new int[8][1024];
    private final boolean[][] truths = new boolean[8][1024];

    private static int wrapped(BigInteger v) {
        return v.add(HALF).mod(WHOLE).subtract(HALF).intValue();
    }

    private static boolean anyOut(int last, int... numbers) {
        for (int n : numbers) {
            if (n < 0 || n > last) {
                return true;
            }
        }
        return false;
    }

    private static long count(boolean[] truth) {
        long n = 0;
        for (boolean yes : truth) {
            n += yes ? 1 : 0;
        }
        return n;
    }

    long constant(int slot, int v) {
        if (anyOut(7, slot)) {
            return ILLEGAL;
        }
        java.util.Arrays.fill(slots[slot], wrapped(BigInteger.valueOf(v)));
        return 0;
    }

    long unknown(int slot, int first, int count, int low) {
        if (anyOut(7, slot) || anyOut(10, first, count) || first + count > 10) {
            return ILLEGAL;
        }
        for (int w = 0; w < 1024; w++) {
            BigInteger sum = BigInteger.valueOf(low);
            for (int i = 0; i < count; i++) {
                if (BigInteger.valueOf(w).testBit(first + i)) {
                    sum = sum.add(BigInteger.ONE.shiftLeft(i));
                }
            }
            slots[slot][w] = wrapped(sum);
        }
        return 0;
    }

    long reckon(int slot, int kind, int a, int b) {
        if (anyOut(7, slot, a, b) || anyOut(5, kind)) {
            return ILLEGAL;
        }
        int[] result = new int[1024];
        for (int w = 0; w < 1024; w++) {
            BigInteger x = BigInteger.valueOf(slots[a][w]);
            BigInteger y = BigInteger.valueOf(slots[b][w]);
            result[w] = wrapped(reckoned(kind, x, y));
        }
        slots[slot] = result;
        return 0;
    }

    private static BigInteger reckoned(int kind, BigInteger x, BigInteger y) {
        boolean divisible = y.signum() != 0;
        switch (kind) {
            case 0: return x.add(y);
            case 1: return x.subtract(y);
            case 2: return x.multiply(y);
            case 3: return divisible ? x.divide(y) : BigInteger.ZERO;
            case 4: return divisible ? x.remainder(y) : BigInteger.ZERO;
            default: return y.negate();
        }
    }

    long compare(int truth, int kind, int a, int b) {
        if (anyOut(7, truth, a, b) || anyOut(3, kind)) {
            return ILLEGAL;
        }
        for (int w = 0; w < 1024; w++) {
            int order = Integer.compare(slots[a][w], slots[b][w]);
            truths[truth][w] = new boolean[] {order == 0, order != 0, order < 0, order <= 0}[kind];
        }
        return count(truths[truth]);
    }

    long choose(int slot, int truth, int a, int b) {
        if (anyOut(7, slot, truth, a, b)) {
            return ILLEGAL;
        }
        int[] result = slots[b].clone();
        for (int w = 0; w < 1024; w++) {
            if (truths[truth][w]) {
                result[w] = slots[a][w];
            }
        }
        slots[slot] = result;
        return 0;
    }

    long join(int truth, int kind, int p, int q) {
        if (anyOut(7, truth, p, q) || anyOut(3, kind)) {
            return ILLEGAL;
        }
        boolean[] result = new boolean[1024];
        for (int w = 0; w < 1024; w++) {
            boolean x = truths[p][w];
            boolean y = truths[q][w];
            result[w] = new boolean[] {x & y, x | y, x ^ y, !x}[kind];
        }
        truths[truth] = result;
        return count(result);
    }

    long value(int slot, int way) {
        return anyOut(7, slot) || anyOut(1023, way) ? ILLEGAL : slots[slot][way];
    }

    long way(int truth) {
        if (anyOut(7, truth)) {
            return ILLEGAL;
        }
        for (int w = 0; w < 1024; w++) {
            if (truths[truth][w]) {
                return w;
            }
        }
        return NONE;
    }

    long same(int a, int b) {
        if (anyOut(7, a, b)) {
            return ILLEGAL;
        }
        return java.util.Arrays.equals(slots[a], slots[b]) ? 1 : 0;
    }

    long tidy(int what) {
        if (anyOut(2, what)) {
            return ILLEGAL;
        }
        int[] zero = new int[1024];
        long n = 0;
        for (int[] slot : slots) {
            n += java.util.Arrays.equals(slot, zero) ? 0 : 1;
        }
        return n;
    }
}
