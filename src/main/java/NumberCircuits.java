import java.util.NoSuchElementException;

/**
 * Eight numbers and eight truths that hang on ten unknown bits, worked on for all ways of the bits
 * at once.
 *
 * <p>Ten bits have only 1024 ways, so what hangs on them is held as a table with an entry for each
 * way: it is exact, never grows, and two numbers are the same just when their entries are.
 */
public final class NumberCircuits {
    private static final int SLOTS = 8;
    private static final int LAST_SLOT = 7;
    private static final int LAST_TRUTH = 7;
    private static final int BITS = 10;
    private static final int WAYS = 1024;
    private static final int LAST_WAY = 1023;

    private static final int ADD = 0;
    private static final int SUBTRACT = 1;
    private static final int MULTIPLY = 2;
    private static final int DIVIDE = 3;
    private static final int REMAINDER = 4;
    private static final int LAST_RECKONING = 5;

    private static final int EQUAL = 0;
    private static final int UNEQUAL = 1;
    private static final int BELOW = 2;
    private static final int LAST_COMPARISON = 3;

    private static final int BOTH = 0;
    private static final int ONE_OR_BOTH = 1;
    private static final int JUST_ONE = 2;
    private static final int LAST_JOINING = 3;

    private static final int LAST_TIDYING = 2;

    /** The numbers, one slot behind the other; a short wraps just as the numbers have to. */
    private final short[] numbers;

    /** For each way the eight truths, truth t as bit t: packed, so that a new object stays small. */
    private final int[] truths;

    public NumberCircuits() {
        numbers = new short[SLOTS * WAYS];
        truths = new int[WAYS];
    }

    public void constant(int slot, int v) throws IllegalArgumentException {
        needUpTo(slot, LAST_SLOT);
        for (int w = 0; w < WAYS; w++) {
            numbers[place(slot, w)] = (short) v;
        }
    }

    public void unknown(int slot, int first, int count, int low) throws IllegalArgumentException {
        needUpTo(slot, LAST_SLOT);
        needUpTo(first, BITS);
        // Against what first leaves over, as the sum of the two could wrap.
        needUpTo(count, BITS - first);
        int mask = (1 << count) - 1;
        for (int w = 0; w < WAYS; w++) {
            numbers[place(slot, w)] = (short) (((w >> first) & mask) + low);
        }
    }

    public void reckon(int slot, int kind, int a, int b) throws IllegalArgumentException {
        needUpTo(slot, LAST_SLOT);
        needUpTo(kind, LAST_RECKONING);
        needUpTo(a, LAST_SLOT);
        needUpTo(b, LAST_SLOT);
        // Entry by entry, so slot may be a or b: no entry is read after it has been written.
        for (int w = 0; w < WAYS; w++) {
            int result = reckoned(kind, numbers[place(a, w)], numbers[place(b, w)]);
            numbers[place(slot, w)] = (short) result;
        }
    }

    public int compare(int truth, int kind, int a, int b) throws IllegalArgumentException {
        needUpTo(truth, LAST_TRUTH);
        needUpTo(kind, LAST_COMPARISON);
        needUpTo(a, LAST_SLOT);
        needUpTo(b, LAST_SLOT);
        int yesWays = 0;
        for (int w = 0; w < WAYS; w++) {
            boolean yes = compared(kind, numbers[place(a, w)], numbers[place(b, w)]);
            setTruth(truth, w, yes);
            yesWays += yes ? 1 : 0;
        }
        return yesWays;
    }

    public void choose(int slot, int truth, int a, int b) throws IllegalArgumentException {
        needUpTo(slot, LAST_SLOT);
        needUpTo(truth, LAST_TRUTH);
        needUpTo(a, LAST_SLOT);
        needUpTo(b, LAST_SLOT);
        for (int w = 0; w < WAYS; w++) {
            int chosen = isYes(truth, w) ? a : b;
            numbers[place(slot, w)] = numbers[place(chosen, w)];
        }
    }

    public int join(int truth, int kind, int p, int q) throws IllegalArgumentException {
        needUpTo(truth, LAST_TRUTH);
        needUpTo(kind, LAST_JOINING);
        needUpTo(p, LAST_TRUTH);
        needUpTo(q, LAST_TRUTH);
        int yesWays = 0;
        for (int w = 0; w < WAYS; w++) {
            boolean yes = joined(kind, isYes(p, w), isYes(q, w));
            setTruth(truth, w, yes);
            yesWays += yes ? 1 : 0;
        }
        return yesWays;
    }

    public int value(int slot, int way) throws IllegalArgumentException {
        needUpTo(slot, LAST_SLOT);
        needUpTo(way, LAST_WAY);
        return numbers[place(slot, way)];
    }

    public int way(int truth) throws IllegalArgumentException, NoSuchElementException {
        needUpTo(truth, LAST_TRUTH);
        for (int w = 0; w < WAYS; w++) {
            if (isYes(truth, w)) {
                return w;
            }
        }
        throw new NoSuchElementException("the truth is yes for no way");
    }

    public boolean same(int a, int b) throws IllegalArgumentException {
        needUpTo(a, LAST_SLOT);
        needUpTo(b, LAST_SLOT);
        for (int w = 0; w < WAYS; w++) {
            if (numbers[place(a, w)] != numbers[place(b, w)]) {
                return false;
            }
        }
        return true;
    }

    public int tidy(int what) throws IllegalArgumentException {
        needUpTo(what, LAST_TIDYING);
        // A table holds nothing that is not needed and has no order of the bits to seek or to turn:
        // for each of the three only the answer is left to give.
        int count = 0;
        for (int slot = 0; slot < SLOTS; slot++) {
            count += isZeroEverywhere(slot) ? 0 : 1;
        }
        return count;
    }

    private static void needUpTo(int number, int last) {
        if (number < 0 || number > last) {
            throw new IllegalArgumentException("a number is out of range");
        }
    }

    private static int place(int slot, int way) {
        return slot * WAYS + way;
    }

    private boolean isYes(int truth, int way) {
        return ((truths[way] >> truth) & 1) != 0;
    }

    private void setTruth(int truth, int way, boolean yes) {
        int bit = 1 << truth;
        truths[way] = yes ? truths[way] | bit : truths[way] & ~bit;
    }

    private boolean isZeroEverywhere(int slot) {
        for (int w = 0; w < WAYS; w++) {
            if (numbers[place(slot, w)] != 0) {
                return false;
            }
        }
        return true;
    }

    /** Not yet wrapped: two numbers of sixteen bits never reckon to more than an int holds. */
    private static int reckoned(int kind, int a, int b) {
        switch (kind) {
            case ADD:
                return a + b;
            case SUBTRACT:
                return a - b;
            case MULTIPLY:
                return a * b;
            case DIVIDE:
                return b == 0 ? 0 : a / b;
            case REMAINDER:
                return b == 0 ? 0 : a % b;
            default:
                return -b;
        }
    }

    private static boolean compared(int kind, int a, int b) {
        switch (kind) {
            case EQUAL:
                return a == b;
            case UNEQUAL:
                return a != b;
            case BELOW:
                return a < b;
            default:
                return a <= b;
        }
    }

    private static boolean joined(int kind, boolean p, boolean q) {
        switch (kind) {
            case BOTH:
                return p && q;
            case ONE_OR_BOTH:
                return p || q;
            case JUST_ONE:
                return p != q;
            default:
                return !p;
        }
    }
}
