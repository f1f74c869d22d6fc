/** The boundaries that the promises on slots name: constant, unknown, reckon, choose, value, same. */
final class SlotBoundaries {
    private static final String CONSTANT = "Promise 2: constant";
    private static final String UNKNOWN = "Promise 3: unknown";
    private static final String RECKON = "Promise 4: reckon";
    private static final String CHOOSE = "Promise 6: choose";
    private static final String VALUE = "Promise 8: value";
    private static final String SAME = "Promise 10: same";

    private final Checks checks;

    SlotBoundaries(Checks checks) {
        this.checks = checks;
    }

    void tell(Sentences s) {
        s.of(CONSTANT, "slot 0 .. 7 (so for all).", this::slotOfConstant);
        s.of(CONSTANT, "It is the lowest sixteen bits of v, with sign, for each WAY.", this::lowestSixteenBits);
        s.of(UNKNOWN, "first, count 0 .. 10", this::firstAndCount);
        s.of(UNKNOWN, "together at most 10", this::bitsTogether);
        s.of(UNKNOWN, "the number of BITS first .. first + count - 1 (the first the lowest)", this::numberOfBits);
        s.of(UNKNOWN, "plus low (as constant;", this::plusLow);
        s.of(UNKNOWN, "alone with count 0), for each WAY.", this::lowAlone);
        s.of(RECKON, "kind 0 a + b, 1 a - b, 2 a * b, 3 a / b (cut toward 0), 4 what is left then (of a's sign), "
            + "both 0 where b is; 5 -b", this::kindsOfReckon);
        s.of(RECKON, "kind 0 a + b", this::sumsWrap);
        s.of(RECKON, "1 a - b", this::differencesWrap);
        s.of(RECKON, "2 a * b", this::productsWrap);
        s.of(RECKON, "3 a / b (cut toward 0)", this::cutTowardZero);
        s.of(RECKON, "4 what is left then (of a's sign)", this::leftOfSign);
        s.of(RECKON, "both 0 where b is", this::divisorZero);
        s.of(RECKON, "5 -b", this::negated);
        s.of(RECKON, "(a any SLOT, 0 .. 7)", this::anyFirstSlot);
        s.of(RECKON, "a, b SLOTS as they were", this::reckonedInPlace);
        s.of(RECKON, "-32768 / -1 wraps to -32768.", this::smallestByMinusOne);
        s.of(CHOOSE, "It is a where the TRUTH is yes, else b", this::chosen);
        s.of(CHOOSE, "(SLOTS as they were)", this::chosenInPlace);
        s.of(VALUE, "What a SLOT is for a WAY.", this::valueAtEdges);
        s.of(SAME, "Whether two SLOTS give the same for all WAYS.", this::sameForAllWays);
    }

    private void slotOfConstant() {
        checks.range("constant", 7, (x, n) -> x.constant(n, -1));
        for (int slot = 0; slot < 8; slot++) {
            int at = slot;
            checks.numberEverywhere("constant(" + at + ", -1)", x -> x.constant(at, -1), at, w -> -1);
        }
    }

    private void lowestSixteenBits() {
        int[][] rows = {
            {0, 0}, {1, 1}, {-1, -1}, {32767, 32767}, {32768, -32768}, {32769, -32767},
            {65535, -1}, {65536, 0}, {65537, 1}, {98303, 32767}, {98304, -32768},
            {-32768, -32768}, {-32769, 32767}, {-65535, 1}, {-65536, 0}, {-65537, -1},
            {Integer.MAX_VALUE, -1}, {Integer.MIN_VALUE, 0}, {Integer.MIN_VALUE + 32768, -32768}
        };
        for (int[] row : rows) {
            checks.numberEverywhere("constant(2, " + row[0] + ")", x -> x.constant(2, row[0]), 2, w -> row[1]);
        }
    }

    private void firstAndCount() {
        checks.range("first", 10, (x, n) -> x.unknown(3, n, 0, 1));
        checks.range("count", 10, (x, n) -> x.unknown(3, 0, n, 1));
    }

    private void bitsTogether() {
        for (int first = 0; first <= 10; first++) {
            int f = first;
            checks.range("the count beside first " + f, 10 - f, (x, n) -> x.unknown(3, f, n, 1));
        }
        // Each pair has a sum of at most 10, some of them only by wrapping round.
        int[][] pairs = {{11, -1}, {-1, 11}, {-1, 1}, {5, -1}, {Integer.MAX_VALUE, 1},
            {Integer.MIN_VALUE, Integer.MIN_VALUE}, {Integer.MAX_VALUE, Integer.MAX_VALUE}};
        for (int[] pair : pairs) {
            checks.refused("first " + pair[0] + ", count " + pair[1], x -> x.unknown(3, pair[0], pair[1], 1));
        }
    }

    private void numberOfBits() {
        checks.numberEverywhere("all ten", x -> x.unknown(0, 0, 10, 0), 0, w -> w);
        checks.numberEverywhere("the lowest one", x -> x.unknown(0, 0, 1, 0), 0, w -> w % 2);
        checks.numberEverywhere("the highest one", x -> x.unknown(0, 9, 1, 0), 0, w -> w / 512);
        checks.numberEverywhere("all but the highest", x -> x.unknown(0, 0, 9, 0), 0, w -> w % 512);
        checks.numberEverywhere("all but the lowest", x -> x.unknown(0, 1, 9, 0), 0, w -> w / 2);
        checks.numberEverywhere("four in the midst", x -> x.unknown(0, 3, 4, 0), 0, w -> w / 8 % 16);
    }

    private void plusLow() {
        int[][] rows = {{0, 0}, {-1, -1}, {65536, 0}, {65535, -1}, {-65536, 0}, {31744, 31744},
            {Integer.MAX_VALUE, -1}, {Integer.MIN_VALUE, 0}, {-32768, -32768}, {32768, -32768}};
        for (int[] row : rows) {
            checks.numberEverywhere("low " + row[0], x -> x.unknown(0, 0, 10, row[0]), 0, w -> w + row[1]);
        }
        checks.numberEverywhere("low 31745, past the greatest for way 1023", x -> x.unknown(0, 0, 10, 31745), 0,
            w -> w == 1023 ? -32768 : w + 31745);
        checks.numberEverywhere("low 32767, past the greatest but for way 0", x -> x.unknown(0, 0, 10, 32767), 0,
            w -> w == 0 ? 32767 : w - 32769);
    }

    private void lowAlone() {
        int[][] rows = {{5, 5}, {-5, -5}, {70000, 4464}, {32768, -32768}, {Integer.MAX_VALUE, -1}};
        for (int first = 0; first <= 10; first++) {
            int f = first;
            for (int[] row : rows) {
                checks.numberEverywhere("count 0 from " + f, x -> x.unknown(6, f, 0, row[0]), 6, w -> row[1]);
            }
        }
    }

    private void kindsOfReckon() {
        checks.range("the kind", 5, (x, n) -> x.reckon(3, n, 4, 5));
        reckoned(0, 13, 5, 18);
        reckoned(1, 13, 5, 8);
        reckoned(2, 13, 5, 65);
        reckoned(3, 13, 5, 2);
        reckoned(4, 13, 5, 3);
        reckoned(5, 13, 5, -5);
    }

    /** For all ways, as the first and the last of them are boundaries too. */
    private void reckoned(int kind, int a, int b, int due) {
        checks.numberEverywhere("kind " + kind + " of " + a + " and " + b, x -> {
            x.constant(0, a);
            x.constant(7, b);
            x.reckon(3, kind, 0, 7);
        }, 3, w -> due);
    }

    private void sumsWrap() {
        reckoned(0, 32766, 1, 32767);
        reckoned(0, 32767, 1, -32768);
        reckoned(0, 32767, 32767, -2);
        reckoned(0, -32767, -1, -32768);
        reckoned(0, -32768, -1, 32767);
        reckoned(0, -32768, -32768, 0);
        reckoned(0, -32768, 32767, -1);
    }

    private void differencesWrap() {
        reckoned(1, -32767, 1, -32768);
        reckoned(1, -32768, 1, 32767);
        reckoned(1, 32766, -1, 32767);
        reckoned(1, 32767, -1, -32768);
        reckoned(1, 0, -32768, -32768);
        reckoned(1, -1, -32768, 32767);
        reckoned(1, 32767, -32768, -1);
        reckoned(1, -32768, 32767, 1);
    }

    private void productsWrap() {
        reckoned(2, 181, 181, 32761);
        reckoned(2, 182, 182, -32412);
        reckoned(2, 16384, 2, -32768);
        reckoned(2, -16384, 2, -32768);
        reckoned(2, 16385, -2, 32766);
        reckoned(2, 256, 256, 0);
        reckoned(2, 32767, 32767, 1);
        reckoned(2, -32768, -1, -32768);
        reckoned(2, -32768, 32767, -32768);
        reckoned(2, -32768, -32768, 0);
        reckoned(2, 0, -32768, 0);
    }

    private void cutTowardZero() {
        reckoned(3, 7, 2, 3);
        reckoned(3, -7, 2, -3);
        reckoned(3, 7, -2, -3);
        reckoned(3, -7, -2, 3);
        reckoned(3, 1, 2, 0);
        reckoned(3, -1, 2, 0);
        reckoned(3, -1, 32767, 0);
        reckoned(3, 32767, -32768, 0);
        reckoned(3, -32768, 32767, -1);
        reckoned(3, -32768, 1, -32768);
        reckoned(3, -32768, -32768, 1);
        reckoned(3, 0, -5, 0);
    }

    private void leftOfSign() {
        reckoned(4, 7, 2, 1);
        reckoned(4, -7, 2, -1);
        reckoned(4, 7, -2, 1);
        reckoned(4, -7, -2, -1);
        reckoned(4, -6, 2, 0);
        reckoned(4, 1, 32767, 1);
        reckoned(4, -1, 32767, -1);
        reckoned(4, 32767, -32768, 32767);
        reckoned(4, -32768, 32767, -1);
        reckoned(4, -32768, -32768, 0);
        reckoned(4, -32768, -1, 0);
        reckoned(4, 0, -5, 0);
    }

    private void divisorZero() {
        for (int kind = 3; kind <= 4; kind++) {
            int k = kind;
            for (int a : new int[] {0, 1, -1, 32767, -32768}) {
                reckoned(k, a, 0, 0);
            }
            // b goes from -512 to 511, so it is 0 for way 512 alone; the row is for b from -5 to 5.
            int[] near = k == 3 ? new int[] {-1, -1, -1, -2, -5, 0, 5, 2, 1, 1, 1}
                : new int[] {0, 1, 2, 1, 0, 0, 0, 1, 2, 1, 0};
            int far = k == 3 ? 0 : 5;
            checks.numberEverywhere("kind " + k + " of 5 and w - 512", x -> {
                x.unknown(0, 0, 10, -512);
                x.constant(1, 5);
                x.reckon(2, k, 1, 0);
            }, 2, w -> w >= 507 && w <= 517 ? near[w - 507] : far);
        }
    }

    private void negated() {
        reckoned(5, 9, 1, -1);
        reckoned(5, 9, -1, 1);
        reckoned(5, 9, 0, 0);
        reckoned(5, 9, 32767, -32767);
        reckoned(5, 9, -32767, 32767);
        reckoned(5, 9, -32768, -32768);
    }

    private void anyFirstSlot() {
        checks.range("a of kind 5", 7, (x, n) -> x.reckon(3, 5, n, 4));
        for (int a = 0; a < 8; a++) {
            int any = a;
            checks.numberEverywhere("a is slot " + any, x -> {
                x.constant(any, 77);
                x.unknown(4, 0, 10, -1);
                x.reckon(3, 5, any, 4);
            }, 3, w -> 1 - w);
        }
    }

    /** Slot 1 is w - 500 and slot 2 is 9 for way w. */
    private void reckonedInPlace() {
        for (int kind = 0; kind < 6; kind++) {
            int k = kind;
            inPlace("into a, kind " + k, x -> x.reckon(1, k, 1, 2), 1, w -> Checks.dueReckoned(k, w - 500, 9));
            inPlace("into b, kind " + k, x -> x.reckon(2, k, 1, 2), 2, w -> Checks.dueReckoned(k, w - 500, 9));
            inPlace("a is b too, kind " + k, x -> x.reckon(1, k, 1, 1), 1,
                w -> Checks.dueReckoned(k, w - 500, w - 500));
            inPlace("a stays, kind " + k, x -> x.reckon(3, k, 1, 2), 1, w -> w - 500);
            inPlace("b stays, kind " + k, x -> x.reckon(3, k, 1, 2), 2, w -> 9);
        }
    }

    private void inPlace(String what, Checks.Call call, int slot, Checks.Due due) {
        checks.numberEverywhere(what, x -> {
            x.unknown(1, 0, 10, -500);
            x.constant(2, 9);
            call.on(x);
        }, slot, due);
    }

    private void smallestByMinusOne() {
        reckoned(3, -32768, -1, -32768);
        reckoned(3, -32767, -1, 32767);
        checks.numberEverywhere("from -32768 up by -1", x -> {
            x.unknown(0, 0, 10, -32768);
            x.constant(1, -1);
            x.reckon(0, 3, 0, 1);
        }, 0, w -> w == 0 ? -32768 : 32768 - w);
    }

    /** Slot 3 is w and slot 4 is -w - 1 for way w: they are nowhere the same. */
    private void chosen() {
        checks.range("the truth", 7, (x, n) -> x.choose(3, n, 4, 5));
        chosenWhere("yes for none", 0, 0);
        chosenWhere("yes for way 0 alone", 0, 1);
        chosenWhere("yes for way 1023 alone", 1023, 1024);
        chosenWhere("no for way 0 alone", 1, 1024);
        chosenWhere("no for way 1023 alone", 0, 1023);
        chosenWhere("yes for all", 0, 1024);
    }

    private void chosenWhere(String what, int from, int to) {
        checks.numberEverywhere(what, x -> {
            yesFromTo(x, from, to);
            x.unknown(3, 0, 10, 0);
            x.constant(4, -1);
            x.reckon(4, 1, 4, 3);
            x.choose(5, 7, 3, 4);
        }, 5, w -> w >= from && w < to ? w : -w - 1);
    }

    /** Truth 7 becomes yes for the ways from .. to - 1; slots 0 and 1 and truth 6 are lost. */
    private static void yesFromTo(NumberCircuits x, int from, int to) {
        x.unknown(0, 0, 10, 0);
        x.constant(1, from);
        x.compare(6, 3, 1, 0);
        x.constant(1, to);
        x.compare(7, 2, 0, 1);
        x.join(7, 0, 6, 7);
    }

    private void chosenInPlace() {
        inPlaceChosen("into a", x -> x.choose(3, 7, 3, 4), 3, w -> w < 300 ? w + 2 : 1 - w);
        inPlaceChosen("into b", x -> x.choose(4, 7, 3, 4), 4, w -> w < 300 ? w + 2 : 1 - w);
        inPlaceChosen("a is b too", x -> x.choose(3, 7, 3, 3), 3, w -> w + 2);
        inPlaceChosen("a stays", x -> x.choose(5, 7, 3, 4), 3, w -> w + 2);
        inPlaceChosen("b stays", x -> x.choose(5, 7, 3, 4), 4, w -> 1 - w);
    }

    private void inPlaceChosen(String what, Checks.Call call, int slot, Checks.Due due) {
        checks.numberEverywhere(what, x -> {
            yesFromTo(x, 0, 300);
            x.unknown(3, 0, 10, 2);
            x.constant(4, 3);
            x.reckon(4, 1, 4, 3);
            call.on(x);
        }, slot, due);
    }

    private void valueAtEdges() {
        checks.range("the slot", 7, (x, n) -> x.value(n, 0));
        checks.range("the way", 1023, (x, n) -> x.value(0, n));
        NumberCircuits x = Filled.made();
        checks.equal("value(0, 0)", x.value(0, 0), -50);
        checks.equal("value(0, 1023)", x.value(0, 1023), 973);
        checks.equal("value(7, 0)", x.value(7, 0), -750);
        checks.equal("value(7, 1023)", x.value(7, 1023), 273);
        checks.isTrue("value changes nothing", Filled.isAsMade(x, 7));
    }

    private void sameForAllWays() {
        NumberCircuits x = new NumberCircuits();
        checks.isTrue("two new slots", x.same(0, 7));
        checks.isTrue("a slot and itself", x.same(7, 7));
        for (int way = 0; way < 1024; way++) {
            otherForOneWay(way);
        }
        NumberCircuits y = new NumberCircuits();
        y.constant(0, 32767);
        y.constant(1, -32768);
        checks.isTrue("the greatest and the smallest", !y.same(0, 1));
        y.constant(2, 1);
        y.reckon(0, 0, 0, 2);
        checks.isTrue("32767 + 1 and -32768", y.same(0, 1));
    }

    private void otherForOneWay(int way) {
        NumberCircuits x = new NumberCircuits();
        yesFromTo(x, way, way + 1);
        x.constant(1, -1);
        x.choose(2, 7, 1, 0);
        checks.isTrue("other for way " + way + " alone", !x.same(0, 2) && !x.same(2, 0));
        x.choose(2, 7, 0, 2);
        checks.isTrue("no longer other for way " + way, x.same(0, 2) && x.same(2, 0));
    }
}
