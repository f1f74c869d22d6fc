import java.util.Arrays;

/** Numbers out of range: what is thrown, and that a call that throws changes nothing. */
public final class WrongInputsTest {
    private interface Face {
        void call(NumberCircuits x, int[] args);
    }

    /** A call of the face, with the last number that each of its arguments may be. */
    private record Called(String name, int[] last, Face face) {
        String with(int[] args) {
            return name + Arrays.toString(args);
        }
    }

    /** Marks an argument that may be any number. */
    private static final int ANY = -1;

    private static final Called CONSTANT = new Called("constant", new int[] {7, ANY}, (x, a) -> x.constant(a[0], a[1]));
    private static final Called UNKNOWN = new Called("unknown", new int[] {7, 10, 10, ANY},
        (x, a) -> x.unknown(a[0], a[1], a[2], a[3]));
    private static final Called RECKON = new Called("reckon", new int[] {7, 5, 7, 7},
        (x, a) -> x.reckon(a[0], a[1], a[2], a[3]));
    private static final Called COMPARE = new Called("compare", new int[] {7, 3, 7, 7},
        (x, a) -> x.compare(a[0], a[1], a[2], a[3]));
    private static final Called CHOOSE = new Called("choose", new int[] {7, 7, 7, 7},
        (x, a) -> x.choose(a[0], a[1], a[2], a[3]));
    private static final Called JOIN = new Called("join", new int[] {7, 3, 7, 7},
        (x, a) -> x.join(a[0], a[1], a[2], a[3]));
    private static final Called VALUE = new Called("value", new int[] {7, 1023}, (x, a) -> x.value(a[0], a[1]));
    private static final Called WAY = new Called("way", new int[] {7}, (x, a) -> x.way(a[0]));
    private static final Called SAME = new Called("same", new int[] {7, 7}, (x, a) -> x.same(a[0], a[1]));
    private static final Called TIDY = new Called("tidy", new int[] {2}, (x, a) -> x.tidy(a[0]));
    private static final Called[] ALL = {CONSTANT, UNKNOWN, RECKON, COMPARE, CHOOSE, JOIN, VALUE, WAY, SAME, TIDY};

    private static final Checks checks = new Checks();

    public static void main(String[] args) {
        eachOutOfRange(CONSTANT, 2, 9);
        eachOutOfRange(UNKNOWN, 2, 0, 0, 9);
        for (int kind = 0; kind < 6; kind++) {
            eachOutOfRange(RECKON, 2, kind, 0, 1);
        }
        for (int kind = 0; kind < 4; kind++) {
            eachOutOfRange(COMPARE, 2, kind, 0, 1);
            eachOutOfRange(JOIN, 2, kind, 0, 1);
        }
        eachOutOfRange(CHOOSE, 2, 0, 0, 1);
        eachOutOfRange(VALUE, 2, 5);
        eachOutOfRange(WAY, 0);
        eachOutOfRange(SAME, 0, 1);
        eachOutOfRange(TIDY, 0);
        for (Called called : ALL) {
            edgesTogether(called);
        }
        bitsTogether();
        noWay();
        checks.finish();
    }

    /** Each argument that ends at a last one in turn too small, too great, and at both its edges. */
    private static void eachOutOfRange(Called called, int... right) {
        for (int i = 0; i < right.length; i++) {
            int last = called.last()[i];
            if (last == ANY) {
                continue;
            }
            int[] wrongs = {-1, last + 1, last + 2, -8, 1 << 16, Integer.MIN_VALUE, Integer.MAX_VALUE};
            for (int number : wrongs) {
                takenOrRefused(called, replaced(right, i, number));
            }
            for (int edge : new int[] {0, last}) {
                takenOrRefused(called, replaced(right, i, edge));
            }
        }
    }

    private static int[] replaced(int[] args, int at, int number) {
        int[] other = args.clone();
        other[at] = number;
        return other;
    }

    /** All edges of all arguments beside one another, as a right one must not hide a wrong one. */
    private static void edgesTogether(Called called) {
        int combinations = 1;
        for (int last : called.last()) {
            combinations *= edges(last).length;
        }
        for (int pick = 0; pick < combinations; pick++) {
            takenOrRefused(called, edgesPicked(pick, called.last()));
        }
    }

    private static int[] edges(int last) {
        return new int[] {Integer.MIN_VALUE, -1, 0, last, last + 1, Integer.MAX_VALUE};
    }

    private static int[] edgesPicked(int pick, int[] last) {
        int[] args = new int[last.length];
        int rest = pick;
        for (int i = 0; i < last.length; i++) {
            int[] edges = edges(last[i]);
            args[i] = edges[rest % edges.length];
            rest /= edges.length;
        }
        return args;
    }

    private static void bitsTogether() {
        for (int first = 0; first <= 10; first++) {
            for (int count = 0; count <= 10; count++) {
                takenOrRefused(UNKNOWN, new int[] {2, first, count, 9});
            }
        }
        checks.refused("a count below 0 within ten together", x -> x.unknown(2, 5, -1, 9));
        checks.refused("a first below 0 within ten together", x -> x.unknown(2, -1, 5, 9));
        checks.refused("a sum that wraps", x -> x.unknown(2, Integer.MAX_VALUE, 10, 9));
        checks.refused("a sum that wraps", x -> x.unknown(2, 10, Integer.MAX_VALUE, 9));
        checks.refused("a sum that wraps to 0", x -> x.unknown(2, Integer.MIN_VALUE, Integer.MIN_VALUE, 9));
    }

    private static void takenOrRefused(Called called, int[] args) {
        if (isTaken(called, args)) {
            checks.thrown(called.with(args), Filled.made(), x -> called.face().call(x, args), Checks.NOTHING);
        } else {
            checks.refused(called.with(args), x -> called.face().call(x, args));
        }
    }

    private static boolean isTaken(Called called, int[] args) {
        for (int i = 0; i < args.length; i++) {
            int last = called.last()[i];
            if (last != ANY && (args[i] < 0 || args[i] > last)) {
                return false;
            }
        }
        return called != UNKNOWN || args[1] + args[2] <= 10;
    }

    private static void noWay() {
        for (int truth : Filled.SCRATCHES) {
            checks.noWayChangesNothing(truth);
        }
        checks.thrown("way(8), before there is none", new NumberCircuits(), y -> y.way(8), Checks.ILLEGAL);
        checks.thrown("way(-1), before there is none", new NumberCircuits(), y -> y.way(-1), Checks.ILLEGAL);
    }
}
