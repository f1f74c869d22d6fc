/** Each promise with ordinary inputs and the edges that the document names. */
public final class PromisesTest {
    private static final int[] EDGES = {
        -32768, -32767, -16385, -16384, -257, -256, -182, -181, -10, -7, -3, -2, -1,
        0, 1, 2, 3, 7, 10, 181, 182, 255, 256, 16383, 16384, 32766, 32767
    };
    private static final int[] SOME_WAYS = {0, 1, 2, 3, 31, 32, 500, 511, 512, 1022, 1023};

    private static final Checks checks = new Checks();

    public static void main(String[] args) {
        promise1NewObject();
        promise2Constant();
        promise3Unknown();
        promise4Reckon();
        promise4SlotsAsTheyWere();
        promise5Compare();
        promise6Choose();
        promise7Join();
        promise8Value();
        promise9Way();
        promise10Same();
        promise11Tidy();
        objectsAreApart();
        checks.finish();
    }

    private static void promise1NewObject() {
        for (int i = 0; i < 8; i++) {
            int at = i;
            checks.numberEverywhere("a new object", x -> { }, i, w -> 0);
            checks.truthEverywhere("a new object", x -> { }, i, w -> 0);
            NumberCircuits x = new NumberCircuits();
            checks.thrown("way(" + i + ") of a new object", x, y -> y.way(at), Checks.NO_SUCH);
            checks.equal("no in truth " + i, x.join(i, 3, i, 0), 1024);
        }
        checks.equal("tidy(0) of a new object", new NumberCircuits().tidy(0), 0);
    }

    private static void promise2Constant() {
        int[] given = {0, 1, -1, 32767, 32768, -32768, -32769, 65535, 65536, 41904, 70000, -70000,
            Integer.MAX_VALUE, Integer.MIN_VALUE, 0x12348000, 0x7fff7fff};
        for (int slot = 0; slot < 8; slot++) {
            for (int v : given) {
                NumberCircuits x = new NumberCircuits();
                x.constant(slot, v);
                for (int w : SOME_WAYS) {
                    checks.equal("constant(" + slot + ", " + v + ") at " + w, x.value(slot, w), Checks.wrapped(v));
                }
                checks.equal("the slots beside constant", x.tidy(0), Checks.wrapped(v) == 0 ? 0 : 1);
            }
        }
        checks.numberEverywhere("constant", x -> x.constant(3, -5), 3, w -> -5);
    }

    private static void promise3Unknown() {
        for (int first = 0; first <= 10; first++) {
            for (int count = 0; first + count <= 10; count++) {
                unknownEverywhere(first, count, 0);
                unknownEverywhere(first, count, 32760);
            }
        }
        int[] lows = {-3, -32768, 32767, 32768, 70000, -70000, Integer.MAX_VALUE, Integer.MIN_VALUE};
        for (int low : lows) {
            unknownEverywhere(0, 10, low);
            unknownEverywhere(3, 4, low);
            unknownEverywhere(10, 0, low);
            unknownEverywhere(0, 0, low);
        }
    }

    private static void unknownEverywhere(int first, int count, int low) {
        String what = "unknown(4, " + first + ", " + count + ", " + low + ")";
        Checks.Due due = w -> {
            long sum = low;
            for (int i = 0; i < count; i++) {
                boolean set = Integer.toBinaryString(w + 1024).charAt(10 - first - i) == '1';
                sum += set ? Math.round(Math.pow(2, i)) : 0;
            }
            return Checks.wrapped(sum);
        };
        checks.numberEverywhere(what, x -> x.unknown(4, first, count, low), 4, due);
    }

    private static void promise4Reckon() {
        for (int kind = 0; kind < 6; kind++) {
            int k = kind;
            for (int a : EDGES) {
                for (int b : EDGES) {
                    NumberCircuits x = new NumberCircuits();
                    x.constant(1, a);
                    x.constant(2, b);
                    x.reckon(0, kind, 1, 2);
                    String what = "reckon kind " + kind + " of " + a + " and " + b;
                    checks.equal(what, x.value(0, 0), Checks.dueReckoned(kind, a, b));
                    checks.equal(what, x.value(0, 1023), Checks.dueReckoned(kind, a, b));
                }
            }
            checks.numberEverywhere("reckon kind " + kind + " over bits", x -> {
                x.unknown(1, 0, 5, -13);
                x.unknown(2, 5, 5, -17);
                x.reckon(3, k, 1, 2);
            }, 3, w -> Checks.dueReckoned(k, w % 32 - 13, w / 32 - 17));
            checks.numberEverywhere("reckon kind " + kind + " over great numbers", x -> {
                x.unknown(1, 0, 10, 32000);
                x.unknown(2, 3, 7, 32700);
                x.reckon(3, k, 1, 2);
            }, 3, w -> Checks.dueReckoned(k, Checks.wrapped(w + 32000), Checks.wrapped(w / 8 + 32700)));
        }
        plainDivisions();
    }

    /** Written out, so that a fault in dueReckoned can't hide one in the program. */
    private static void plainDivisions() {
        int[][] rows = {
            {3, 7, 2, 3}, {3, -7, 2, -3}, {3, 7, -2, -3}, {3, -7, -2, 3}, {3, 7, 0, 0}, {3, -7, 0, 0},
            {4, 7, 2, 1}, {4, -7, 2, -1}, {4, 7, -2, 1}, {4, -7, -2, -1}, {4, 7, 0, 0}, {4, -7, 0, 0},
            {3, -32768, -1, -32768}, {4, -32768, -1, 0}, {5, 9, -32768, -32768}, {5, 9, 4, -4},
            {0, 32767, 1, -32768}, {1, -32768, 1, 32767}, {2, 256, 256, 0}, {2, -32768, -32768, 0},
            {2, 32767, 32767, 1}, {2, 182, 182, -32412}
        };
        for (int[] row : rows) {
            NumberCircuits x = new NumberCircuits();
            x.constant(6, row[1]);
            x.constant(7, row[2]);
            x.reckon(0, row[0], 6, 7);
            checks.equal("kind " + row[0] + " of " + row[1] + " and " + row[2], x.value(0, 77), row[3]);
        }
    }

    private static void promise4SlotsAsTheyWere() {
        for (int kind = 0; kind < 6; kind++) {
            int k = kind;
            Checks.Call given = x -> {
                x.unknown(1, 0, 10, -500);
                x.unknown(2, 4, 6, -30);
            };
            checks.numberEverywhere("into a, kind " + k, x -> { given.on(x); x.reckon(1, k, 1, 2); }, 1,
                w -> Checks.dueReckoned(k, w - 500, w / 16 - 30));
            checks.numberEverywhere("into b, kind " + k, x -> { given.on(x); x.reckon(2, k, 1, 2); }, 2,
                w -> Checks.dueReckoned(k, w - 500, w / 16 - 30));
            checks.numberEverywhere("all one, kind " + k, x -> { given.on(x); x.reckon(1, k, 1, 1); }, 1,
                w -> Checks.dueReckoned(k, w - 500, w - 500));
            checks.numberEverywhere("a is left, kind " + k, x -> { given.on(x); x.reckon(0, k, 1, 2); }, 1,
                w -> w - 500);
            checks.numberEverywhere("b is left, kind " + k, x -> { given.on(x); x.reckon(0, k, 1, 2); }, 2,
                w -> w / 16 - 30);
        }
    }

    private static boolean dueCompared(int kind, int a, int b) {
        int order = Integer.compare(a, b);
        return new boolean[] {order == 0, order != 0, order < 0, order <= 0}[kind];
    }

    private static void promise5Compare() {
        for (int kind = 0; kind < 4; kind++) {
            for (int a : EDGES) {
                for (int b : EDGES) {
                    NumberCircuits x = new NumberCircuits();
                    x.constant(1, a);
                    x.constant(2, b);
                    int due = dueCompared(kind, a, b) ? 1024 : 0;
                    String what = "compare kind " + kind + " of " + a + " and " + b;
                    checks.equal(what, x.compare(7, kind, 1, 2), due);
                    checks.equal(what + ", its way", Checks.wayOrNone(x, 7), due == 0 ? -1 : 0);
                }
            }
            for (int truth = 0; truth < 8; truth++) {
                compareOverBits(kind, truth);
            }
        }
        comparisonReplacesTruth();
    }

    private static void compareOverBits(int kind, int truth) {
        Checks.Call given = x -> {
            x.unknown(1, 0, 5, -13);
            x.unknown(2, 5, 5, -17);
        };
        checks.truthEverywhere("compare kind " + kind, x -> { given.on(x); x.compare(truth, kind, 1, 2); }, truth,
            w -> dueCompared(kind, w % 32 - 13, w / 32 - 17) ? 1 : 0);
        int due = 0;
        for (int w = 0; w < 1024; w++) {
            due += dueCompared(kind, w % 32 - 13, w / 32 - 17) ? 1 : 0;
        }
        NumberCircuits x = new NumberCircuits();
        given.on(x);
        checks.equal("compare kind " + kind + " counts", x.compare(truth, kind, 1, 2), due);
        for (int other = 0; other < 8; other++) {
            if (other != truth) {
                checks.equal("the truths beside compare", Checks.wayOrNone(x, other), -1);
            }
        }
        checks.equal("a with itself, kind " + kind, x.compare(truth, kind, 1, 1),
            kind == 0 || kind == 3 ? 1024 : 0);
    }

    private static void comparisonReplacesTruth() {
        checks.truthEverywhere("a later compare", x -> {
            x.compare(4, 0, 0, 0);
            x.unknown(1, 9, 1, 0);
            x.compare(4, 2, 0, 1);
        }, 4, w -> w / 512);
    }

    private static void promise6Choose() {
        Checks.Call given = x -> {
            x.unknown(0, 0, 10, 0);
            x.constant(1, 300);
            x.compare(2, 2, 0, 1);
            x.constant(3, -7);
            x.constant(4, 9);
        };
        checks.numberEverywhere("choose", x -> { given.on(x); x.choose(5, 2, 3, 4); }, 5, w -> w < 300 ? -7 : 9);
        checks.numberEverywhere("choose into a", x -> { given.on(x); x.choose(0, 2, 0, 4); }, 0, w -> w < 300 ? w : 9);
        checks.numberEverywhere("choose into b", x -> { given.on(x); x.choose(0, 2, 3, 0); }, 0, w -> w < 300 ? -7 : w);
        checks.numberEverywhere("choose of one", x -> { given.on(x); x.choose(0, 2, 0, 0); }, 0, w -> w);
        checks.numberEverywhere("choose by no", x -> { given.on(x); x.choose(5, 7, 3, 0); }, 5, w -> w);
        checks.numberEverywhere("choose by yes", x -> {
            given.on(x);
            x.join(7, 3, 7, 7);
            x.choose(5, 7, 0, 3);
        }, 5, w -> w);
        checks.truthEverywhere("choose leaves the truth", x -> { given.on(x); x.choose(0, 2, 3, 4); }, 2,
            w -> w < 300 ? 1 : 0);
        checks.numberEverywhere("choose leaves a", x -> { given.on(x); x.choose(5, 2, 0, 4); }, 0, w -> w);
    }

    private static void promise7Join() {
        // Truth 1 is bit 3, truth 2 is "below 300": all four pairs of yes and no come up.
        Checks.Call given = x -> {
            x.unknown(0, 3, 1, 0);
            x.constant(1, 0);
            x.compare(1, 1, 0, 1);
            x.unknown(0, 0, 10, 0);
            x.constant(1, 300);
            x.compare(2, 2, 0, 1);
        };
        for (int kind = 0; kind < 4; kind++) {
            int k = kind;
            Checks.Due due = w -> dueJoined(k, (w / 8) % 2, w < 300 ? 1 : 0);
            int[] targets = {0, 1, 2, 7};
            for (int t : targets) {
                checks.truthEverywhere("join kind " + k, x -> { given.on(x); x.join(t, k, 1, 2); }, t, due);
                NumberCircuits x = new NumberCircuits();
                given.on(x);
                checks.equal("join kind " + k + " into " + t, x.join(t, k, 1, 2), countOf(due));
            }
            checks.truthEverywhere("join of one, kind " + k, x -> { given.on(x); x.join(1, k, 1, 1); }, 1,
                w -> dueJoined(k, (w / 8) % 2, (w / 8) % 2));
            checks.truthEverywhere("join leaves p, kind " + k, x -> { given.on(x); x.join(3, k, 1, 2); }, 1,
                w -> (w / 8) % 2);
            checks.truthEverywhere("join leaves q, kind " + k, x -> { given.on(x); x.join(3, k, 1, 2); }, 2,
                w -> w < 300 ? 1 : 0);
        }
        for (int q = 0; q < 8; q++) {
            checks.equal("not the first, q " + q, new NumberCircuits().join(0, 3, 1, q), 1024);
        }
    }

    private static int dueJoined(int kind, int p, int q) {
        return new int[] {p * q, p + q - p * q, (p + q) % 2, 1 - p}[kind];
    }

    private static int countOf(Checks.Due due) {
        int count = 0;
        for (int w = 0; w < 1024; w++) {
            count += due.at(w);
        }
        return count;
    }

    private static void promise8Value() {
        for (int slot = 0; slot < 8; slot++) {
            int s = slot;
            checks.numberEverywhere("value", x -> {
                for (int i = 0; i < 8; i++) {
                    x.unknown(i, 0, 10, 1000 * i - 4000);
                }
            }, s, w -> w + 1000 * s - 4000);
        }
    }

    private static void promise9Way() {
        int[] firsts = {0, 1, 2, 3, 17, 31, 32, 63, 64, 511, 512, 1000, 1022, 1023};
        for (int first : firsts) {
            for (int truth = 0; truth < 8; truth++) {
                NumberCircuits x = new NumberCircuits();
                x.unknown(0, 0, 10, 0);
                x.constant(1, first);
                x.compare(truth, 3, 1, 0);
                checks.equal("the first way from " + first, x.way(truth), first);
                x.compare(truth, 0, 1, 0);
                checks.equal("the only way " + first, x.way(truth), first);
                checks.equal("the same again", x.way(truth), first);
            }
        }
        // The first as a number, not by the lowest bits first: 6 comes before 9.
        NumberCircuits x = new NumberCircuits();
        x.unknown(0, 0, 10, 0);
        x.constant(1, 9);
        x.compare(0, 0, 0, 1);
        x.constant(1, 6);
        x.compare(1, 0, 0, 1);
        x.join(2, 1, 0, 1);
        checks.equal("of ways 6 and 9", x.way(2), 6);
        for (int what = 0; what < 3; what++) {
            x.tidy(what);
            checks.equal("of ways 6 and 9 after tidy(" + what + ")", x.way(2), 6);
        }
        checks.equal("6 and 9 at once", x.join(2, 0, 0, 1), 0);
        checks.thrown("way of a truth that became no", x, y -> y.way(2), Checks.NO_SUCH);
    }

    private static void promise10Same() {
        int[] others = {0, 1, 31, 512, 1022, 1023};
        for (int other : others) {
            NumberCircuits x = new NumberCircuits();
            x.unknown(0, 0, 10, 0);
            x.unknown(1, 0, 10, 0);
            checks.isTrue("same when made alike", x.same(0, 1));
            x.constant(2, other);
            x.compare(0, 0, 0, 2);
            x.constant(3, -1);
            x.choose(1, 0, 3, 1);
            checks.isTrue("other at way " + other + " alone", !x.same(0, 1) && !x.same(1, 0));
            checks.isTrue("same as itself", x.same(1, 1));
        }
        NumberCircuits x = new NumberCircuits();
        x.unknown(0, 0, 5, 0);
        x.unknown(1, 5, 5, 0);
        checks.isTrue("the same values on other bits are not the same", !x.same(0, 1));
        x.reckon(2, 0, 0, 1);
        x.reckon(3, 0, 1, 0);
        checks.isTrue("a + b and b + a", x.same(2, 3));
        x.constant(4, 1);
        x.constant(5, 65537);
        checks.isTrue("1 and 65537", x.same(4, 5));
        x.constant(5, -32767);
        checks.isTrue("1 and -32767", !x.same(4, 5));
    }

    private static void promise11Tidy() {
        for (int what = 0; what < 3; what++) {
            NumberCircuits x = new NumberCircuits();
            checks.equal("tidy of nothing", x.tidy(what), 0);
            x.unknown(7, 0, 10, -1023);
            checks.equal("tidy with a slot that is 0 for way 1023", x.tidy(what), 1);
            x.unknown(0, 0, 10, 0);
            checks.equal("tidy with a slot that is 0 for way 0", x.tidy(what), 2);
            x.constant(3, 65536);
            checks.equal("tidy with a slot set to 65536", x.tidy(what), 2);
            x.constant(4, 5);
            x.reckon(4, 1, 4, 4);
            checks.equal("tidy after a slot became 0", x.tidy(what), 2);
            for (int only : SOME_WAYS) {
                x.constant(4, only);
                x.compare(0, 0, 0, 4);
                x.constant(4, -32768);
                x.choose(5, 0, 4, 1);
                x.constant(4, 0);
                checks.equal("tidy with a slot other for way " + only + " alone", x.tidy(what), 3);
            }
            int w = what;
            tidyLeavesAll(y -> y.tidy(w));
        }
        tidyLeavesAll(y -> {
            y.tidy(1);
            y.tidy(2);
            y.tidy(0);
            y.tidy(2);
            y.tidy(2);
            y.tidy(1);
        });
    }

    private static void tidyLeavesAll(Checks.Call tidying) {
        Checks.Call calls = x -> {
            x.unknown(0, 0, 5, -3);
            x.unknown(1, 5, 5, -9);
            x.compare(3, 2, 0, 1);
            tidying.on(x);
            x.reckon(2, 2, 0, 1);
            tidying.on(x);
        };
        checks.numberEverywhere("slot 0 after tidy", calls, 0, w -> w % 32 - 3);
        checks.numberEverywhere("slot 1 after tidy", calls, 1, w -> w / 32 - 9);
        checks.numberEverywhere("slot 2 after tidy", calls, 2, w -> (w % 32 - 3) * (w / 32 - 9));
        checks.truthEverywhere("after tidy", calls, 3, w -> w % 32 - 3 < w / 32 - 9 ? 1 : 0);
    }

    private static void objectsAreApart() {
        NumberCircuits x = new NumberCircuits();
        NumberCircuits y = new NumberCircuits();
        x.constant(0, 5);
        x.compare(0, 0, 0, 0);
        checks.equal("another object's slot", y.value(0, 0), 0);
        checks.equal("another object's truth", Checks.wayOrNone(y, 0), -1);
    }
}
