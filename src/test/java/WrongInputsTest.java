import java.util.Arrays;

/** Numbers out of range: what is thrown, and that a call that throws changes nothing. */
public final class WrongInputsTest {
    /** A call of the face by its arguments. */
    private interface Face {
        void call(NumberCircuits x, int[] args);
    }

    private static final Checks checks = new Checks();
    /** Marks an argument that may be any number. */
    private static final int ANY = -1;

    public static void main(String[] args) {
        eachOutOfRange("constant", (x, a) -> x.constant(a[0], a[1]), new int[] {7, ANY}, 2, 9);
        eachOutOfRange("unknown", (x, a) -> x.unknown(a[0], a[1], a[2], a[3]), new int[] {7, 10, 10, ANY}, 2, 0, 0, 9);
        for (int kind = 0; kind < 6; kind++) {
            eachOutOfRange("reckon", (x, a) -> x.reckon(a[0], a[1], a[2], a[3]), new int[] {7, 5, 7, 7}, 2, kind, 0, 1);
        }
        for (int kind = 0; kind < 4; kind++) {
            eachOutOfRange("compare", (x, a) -> x.compare(a[0], a[1], a[2], a[3]), new int[] {7, 3, 7, 7}, 2, kind, 0, 1);
            eachOutOfRange("join", (x, a) -> x.join(a[0], a[1], a[2], a[3]), new int[] {7, 3, 7, 7}, 2, kind, 0, 1);
        }
        eachOutOfRange("choose", (x, a) -> x.choose(a[0], a[1], a[2], a[3]), new int[] {7, 7, 7, 7}, 2, 0, 0, 1);
        eachOutOfRange("value", (x, a) -> x.value(a[0], a[1]), new int[] {7, 1023}, 2, 5);
        eachOutOfRange("way", (x, a) -> x.way(a[0]), new int[] {7}, 0);
        eachOutOfRange("same", (x, a) -> x.same(a[0], a[1]), new int[] {7, 7}, 0, 1);
        eachOutOfRange("tidy", (x, a) -> x.tidy(a[0]), new int[] {2}, 0);
        bitsTogether();
        noWay();
        checks.finish();
    }

    /** Each argument that ends at a last one in turn too small, too great, and at both its edges. */
    private static void eachOutOfRange(String name, Face face, int[] last, int... right) {
        for (int i = 0; i < last.length; i++) {
            if (last[i] == ANY) {
                continue;
            }
            int[] wrongs = {-1, last[i] + 1, last[i] + 2, -8, 1 << 16, Integer.MIN_VALUE, Integer.MAX_VALUE};
            for (int wrong : wrongs) {
                int[] args = right.clone();
                args[i] = wrong;
                checks.refused(name + Arrays.toString(args), x -> face.call(x, args));
            }
            for (int edge : new int[] {0, last[i]}) {
                int[] args = right.clone();
                args[i] = edge;
                checks.thrown(name + Arrays.toString(args), Filled.made(), x -> face.call(x, args), Checks.NOTHING);
            }
        }
    }

    private static void bitsTogether() {
        for (int first = 0; first <= 10; first++) {
            for (int count = 0; count <= 10; count++) {
                int f = first;
                int c = count;
                String what = "unknown(2, " + f + ", " + c + ", 9)";
                if (f + c > 10) {
                    checks.refused(what, x -> x.unknown(2, f, c, 9));
                } else {
                    checks.thrown(what, Filled.made(), x -> x.unknown(2, f, c, 9), Checks.NOTHING);
                }
            }
        }
        checks.refused("a count below 0 within ten together", x -> x.unknown(2, 5, -1, 9));
        checks.refused("a first below 0 within ten together", x -> x.unknown(2, -1, 5, 9));
        checks.refused("a sum that wraps", x -> x.unknown(2, Integer.MAX_VALUE, 10, 9));
        checks.refused("a sum that wraps", x -> x.unknown(2, 10, Integer.MAX_VALUE, 9));
        checks.refused("a sum that wraps to 0", x -> x.unknown(2, Integer.MIN_VALUE, Integer.MIN_VALUE, 9));
    }

    private static void noWay() {
        for (int truth : Filled.SCRATCHES) {
            checks.noWayChangesNothing(truth);
        }
        checks.thrown("way(8), before there is none", new NumberCircuits(), y -> y.way(8), Checks.ILLEGAL);
        checks.thrown("way(-1), before there is none", new NumberCircuits(), y -> y.way(-1), Checks.ILLEGAL);
    }
}
