/** The boundaries that the promises on truths and tidy name: compare, join, way, tidy. */
final class TruthBoundaries {
    private static final String COMPARE = "Promise 5: compare";
    private static final String JOIN = "Promise 7: join";
    private static final String WAY = "Promise 9: way";
    private static final String TIDY = "Promise 11: tidy";

    private final Checks checks;

    TruthBoundaries(Checks checks) {
        this.checks = checks;
    }

    void tell(Sentences s) {
        s.of(COMPARE, "truth 0 .. 7 (so for all)", this::truthOfCompare);
        s.of(COMPARE, "kind 0 a is b, 1 is not, 2 a is below b, 3 not above", this::kindsOfCompare);
        s.of(COMPARE, "(with sign)", this::comparedWithSign);
        s.of(COMPARE, "Answers for how many WAYS it is yes.", this::waysOfCompare);
        s.of(JOIN, "kind 0 both, 1 one or both of two TRUTHS, 2 just one, 3 not the first", this::kindsOfJoin);
        s.of(JOIN, "(q any TRUTH, 0 .. 7)", this::anySecondTruth);
        s.of(JOIN, "Answers for how many WAYS it is yes.", this::waysOfJoin);
        s.of(WAY, "The first WAY, as a number, for which a TRUTH is yes", this::firstWay);
        s.of(WAY, "there is none: NoSuchElementException.", this::noWay);
        s.of(TIDY, "0: what is not needed is thrown away; 1: the order of the BITS is sought anew; "
            + "2: it is turned round.", this::tidiedOverAndOver);
        s.of(TIDY, "what 0 .. 2.", this::kindsOfTidy);
        s.of(TIDY, "Answers how many SLOTS are something else than 0 for some WAY.", this::slotsOtherThanZero);
        s.of(TIDY, "What is told of SLOTS and TRUTHS is not otherwise by that.", this::tidyChangesNothing);
    }

    private void truthOfCompare() {
        checks.range("compare", 7, (x, n) -> x.compare(n, 0, 1, 2));
        for (int truth = 0; truth < 8; truth++) {
            int t = truth;
            checks.truthEverywhere("compare", x -> x.compare(t, 0, 0, 1), t, w -> 1);
        }
    }

    private void kindsOfCompare() {
        checks.range("the kind", 3, (x, n) -> x.compare(3, n, 4, 5));
        comparedAround(0, w -> w == 512);
        comparedAround(1, w -> w != 512);
        comparedAround(2, w -> w < 512);
        comparedAround(3, w -> w <= 512);
    }

    private interface Yes {
        boolean at(int way);
    }

    /** a is w and b is 512 for way w: below, the same and above all come up. */
    private void comparedAround(int kind, Yes yes) {
        checks.truthEverywhere("kind " + kind, x -> {
            x.compare(2, 0, 1, 1);
            x.unknown(0, 0, 10, 0);
            x.constant(1, 512);
            x.compare(2, kind, 0, 1);
        }, 2, w -> yes.at(w) ? 1 : 0);
    }

    private void comparedWithSign() {
        compared(-1, 0, false, true);
        compared(0, -1, false, false);
        compared(-32768, 32767, false, true);
        compared(32767, -32768, false, false);
        compared(-32768, -32767, false, true);
        compared(-32768, -1, false, true);
        compared(32766, 32767, false, true);
        compared(-32768, -32768, true, false);
        compared(32767, 32767, true, false);
        compared(-1, -1, true, false);
    }

    private void compared(int a, int b, boolean alike, boolean below) {
        boolean[] due = {alike, !alike, below, alike || below};
        for (int kind = 0; kind < 4; kind++) {
            NumberCircuits x = new NumberCircuits();
            x.constant(0, a);
            x.constant(7, b);
            checks.equal("kind " + kind + " of " + a + " and " + b, x.compare(0, kind, 0, 7), due[kind] ? 1024 : 0);
        }
    }

    private void waysOfCompare() {
        NumberCircuits x = new NumberCircuits();
        checks.equal("a is not a", x.compare(0, 1, 0, 0), 0);
        checks.equal("a is a", x.compare(0, 0, 0, 0), 1024);
        x.unknown(0, 0, 10, 0);
        int[] bounds = {-1, 0, 1, 2, 511, 512, 1022, 1023, 1024};
        for (int bound : bounds) {
            x.constant(1, bound);
            checks.equal("below " + bound, x.compare(7, 2, 0, 1), Math.max(bound, 0));
            checks.equal("not above " + bound, x.compare(7, 3, 0, 1), Math.min(bound + 1, 1024));
            int alike = bound >= 0 && bound < 1024 ? 1 : 0;
            checks.equal("is " + bound, x.compare(7, 0, 0, 1), alike);
            checks.equal("is not " + bound, x.compare(7, 1, 0, 1), 1024 - alike);
        }
    }

    private void kindsOfJoin() {
        checks.range("the kind", 3, (x, n) -> x.join(3, n, 4, 5));
        joinedFrom(0, (p, q) -> p && q);
        joinedFrom(1, (p, q) -> p || q);
        joinedFrom(2, (p, q) -> p != q);
        joinedFrom(3, (p, q) -> !p);
    }

    private interface Joined {
        boolean of(boolean p, boolean q);
    }

    /** Into a truth of its own, into the first, into the second, and of a truth with itself. */
    private void joinedFrom(int kind, Joined joined) {
        Checks.Due due = w -> joined.of(w >= 512, w % 2 == 1) ? 1 : 0;
        for (int truth : new int[] {0, 1, 2, 7}) {
            joinedBits("kind " + kind, x -> x.join(truth, kind, 1, 2), truth, due);
        }
        joinedBits("kind " + kind + " with itself", x -> x.join(1, kind, 1, 1), 1,
            w -> joined.of(w >= 512, w >= 512) ? 1 : 0);
        joinedBits("kind " + kind + ", the first stays", x -> x.join(3, kind, 1, 2), 1, w -> w / 512);
        joinedBits("kind " + kind + ", the second stays", x -> x.join(3, kind, 1, 2), 2, w -> w % 2);
    }

    /** Truth 1 is the highest bit and truth 2 the lowest: all four pairs of yes and no come up. */
    private void joinedBits(String what, Checks.Call call, int truth, Checks.Due due) {
        checks.truthEverywhere(what, x -> {
            x.unknown(0, 9, 1, 0);
            x.compare(1, 1, 0, 1);
            x.unknown(0, 0, 1, 0);
            x.compare(2, 1, 0, 1);
            call.on(x);
        }, truth, due);
    }

    private void anySecondTruth() {
        checks.range("q of kind 3", 7, (x, n) -> x.join(3, 3, 4, n));
        for (int q = 0; q < 8; q++) {
            int any = q;
            joinedBits("not the first beside truth " + any, x -> x.join(3, 3, 1, any), 3, w -> 1 - w / 512);
        }
    }

    private void waysOfJoin() {
        NumberCircuits x = new NumberCircuits();
        checks.equal("no and no", x.join(0, 0, 0, 1), 0);
        checks.equal("no or no", x.join(0, 1, 0, 1), 0);
        checks.equal("just one of no and no", x.join(0, 2, 0, 1), 0);
        checks.equal("not no", x.join(0, 3, 0, 0), 1024);
        checks.equal("yes and yes", x.join(1, 0, 0, 0), 1024);
        checks.equal("yes or yes", x.join(1, 1, 0, 1), 1024);
        checks.equal("just one of yes and yes", x.join(2, 2, 0, 1), 0);
        checks.equal("not yes", x.join(2, 3, 0, 0), 0);
        checks.equal("yes and no", x.join(3, 0, 0, 2), 0);
        checks.equal("yes or no", x.join(3, 1, 2, 0), 1024);
        checks.equal("just one of yes and no", x.join(3, 2, 2, 0), 1024);
        x.unknown(0, 0, 10, 0);
        x.compare(4, 0, 0, 1);
        checks.equal("yes for one way", x.join(5, 0, 4, 0), 1);
        checks.equal("no for one way", x.join(5, 3, 4, 4), 1023);
    }

    private void firstWay() {
        checks.range("way", 7, (x, n) -> x.way(n));
        NumberCircuits x = new NumberCircuits();
        x.join(7, 3, 7, 7);
        checks.equal("yes for all", x.way(7), 0);
        for (int way = 0; way < 1024; way++) {
            firstWayIs(way);
        }
        // The lower number is first and not the one that has its lowest bit set or not.
        firstOfTwo(6, 9);
        firstOfTwo(1, 512);
        firstOfTwo(511, 512);
        firstOfTwo(512, 1023);
    }

    private void firstWayIs(int way) {
        NumberCircuits x = new NumberCircuits();
        x.unknown(0, 0, 10, 0);
        x.constant(1, way);
        x.compare(0, 0, 0, 1);
        checks.equal("yes for " + way + " alone", x.way(0), way);
        x.compare(0, 3, 1, 0);
        checks.equal("yes from " + way + " on", x.way(0), way);
        x.compare(0, 3, 0, 1);
        checks.equal("yes up to " + way, x.way(0), 0);
    }

    private void firstOfTwo(int lower, int higher) {
        NumberCircuits x = new NumberCircuits();
        x.unknown(0, 0, 10, 0);
        x.constant(1, higher);
        x.compare(1, 0, 0, 1);
        x.constant(1, lower);
        x.compare(2, 0, 0, 1);
        x.join(3, 1, 1, 2);
        checks.equal("of " + lower + " and " + higher, x.way(3), lower);
        for (int what = 0; what < 3; what++) {
            x.tidy(what);
            checks.equal("of " + lower + " and " + higher + " after tidy", x.way(3), lower);
        }
    }

    private void noWay() {
        for (int truth = 0; truth < 8; truth++) {
            int t = truth;
            NumberCircuits x = new NumberCircuits();
            checks.thrown("way of a new truth", x, y -> y.way(t), Checks.NO_SUCH);
            x.join(t, 3, t, t);
            checks.equal("way after it became yes", x.way(t), 0);
            x.join(t, 3, t, t);
            checks.thrown("way after it became no again", x, y -> y.way(t), Checks.NO_SUCH);
            x.compare(t, 1, 0, 1);
            checks.thrown("way of what is nowhere so", x, y -> y.way(t), Checks.NO_SUCH);
        }
        checks.noWayChangesNothing(0);
        checks.noWayChangesNothing(7);
    }

    private void tidiedOverAndOver() {
        NumberCircuits x = Filled.made();
        for (int round = 0; round < 50; round++) {
            checks.equal("tidy(" + round % 3 + "), round " + round, x.tidy(round % 3), 8);
        }
        checks.isTrue("all is as made", Filled.isAsMade(x, 7));
        NumberCircuits y = new NumberCircuits();
        for (int what = 0; what < 3; what++) {
            checks.equal("tidy(" + what + ") of a new object", y.tidy(what), 0);
        }
    }

    private void kindsOfTidy() {
        checks.range("what", 2, (x, n) -> x.tidy(n));
    }

    private void slotsOtherThanZero() {
        for (int what = 0; what < 3; what++) {
            NumberCircuits x = new NumberCircuits();
            checks.equal("no slot", x.tidy(what), 0);
            for (int slot = 0; slot < 8; slot++) {
                x.constant(slot, slot % 2 == 0 ? -32768 : 1);
                checks.equal("slots 0 .. " + slot, x.tidy(what), slot + 1);
            }
            for (int slot = 0; slot < 8; slot++) {
                x.constant(slot, 65536);
                checks.equal("slots " + (slot + 1) + " .. 7", x.tidy(what), 7 - slot);
            }
            x.compare(0, 0, 0, 0);
            checks.equal("a truth is no slot", x.tidy(what), 0);
            for (int way = 0; way < 1024; way++) {
                otherForOneWay(what, way);
            }
        }
    }

    /** Slot 0 is 0 for one way alone, and slot 3 is something else for that way alone. */
    private void otherForOneWay(int what, int way) {
        NumberCircuits x = new NumberCircuits();
        x.unknown(0, 0, 10, -way);
        x.compare(0, 0, 0, 1);
        x.constant(2, 256);
        x.choose(3, 0, 2, 1);
        x.constant(2, 0);
        checks.equal("tidy(" + what + "), other for way " + way + " alone", x.tidy(what), 2);
        x.choose(3, 0, 2, 3);
        checks.equal("tidy(" + what + "), no longer other for way " + way, x.tidy(what), 1);
    }

    private void tidyChangesNothing() {
        for (int what = 0; what < 3; what++) {
            for (int scratch : Filled.SCRATCHES) {
                NumberCircuits x = Filled.made();
                x.tidy(what);
                checks.isTrue("all as made after tidy(" + what + ")", Filled.isAsMade(x, scratch));
            }
            int w = what;
            checks.numberEverywhere("what is reckoned after tidy(" + w + ")", x -> {
                x.unknown(0, 0, 10, 0);
                x.tidy(w);
                x.unknown(1, 9, 1, 0);
                x.reckon(2, 1, 0, 1);
                x.tidy(w);
            }, 2, way -> way - way / 512);
        }
    }
}
