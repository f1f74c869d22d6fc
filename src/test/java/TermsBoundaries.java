/** The boundaries that the document names for all calls, and promise 1. */
final class TermsBoundaries {
    private static final String WHAT_IT_IS = "What it is";
    private static final String TERMS = "Terms";
    private static final String NEW_OBJECT = "Promise 1: A new object";

    private final Checks checks;

    TermsBoundaries(Checks checks) {
        this.checks = checks;
    }

    void tell(Sentences s) {
        s.of(WHAT_IT_IS, "An object is used for at most 512 calls after it has been made", this::lastCall);
        s.of(TERMS, "SLOTS 0 .. 7 hold a NUMBER each", this::slots);
        s.of(TERMS, "hold a NUMBER each, 0 at first", this::zeroAtFirst);
        s.of(TERMS, "it gives -32768 .. 32767 for each WAY", this::smallestAndGreatest);
        s.of(TERMS, "WAY, a number 0 .. 1023", this::ways);
        s.of(TERMS, "whose bit v (0 the lowest) is BIT v", this::bitsOfWays);
        s.of(TERMS, "TRUTHS 0 .. 7 give yes or no for each WAY", this::truths);
        s.of(TERMS, "give yes or no for each WAY, no at first", this::noAtFirst);
        s.of(TERMS, "NUMBERS wrap.", this::numbersWrap);
        s.of(TERMS, "What is thrown, in this order: IllegalArgumentException: a number out of range; "
            + "then as the call says.", this::orderOfThrown);
        s.of(TERMS, "A call that throws changes nothing.", this::throwingChangesNothing);
        s.of(NEW_OBJECT, "As said.", this::newObjectsAreApart);
    }

    /** What the 511th call sets is told by the 512th, the last one that is promised. */
    private void lastCall() {
        lastTwo("constant and value", x -> x.constant(7, 32767), x -> checks.equal("value", x.value(7, 1023), 32767));
        lastTwo("unknown and value", x -> x.unknown(7, 0, 10, 1), x -> checks.equal("value", x.value(7, 1023), 1024));
        lastTwo("reckon and same", x -> x.reckon(7, 2, 0, 1), x -> checks.isTrue("same", x.same(7, 2)));
        lastTwo("choose and same", x -> x.choose(7, 0, 3, 2), x -> checks.isTrue("same", x.same(7, 3)));
        lastTwo("choose and not same", x -> x.choose(7, 0, 0, 2), x -> checks.isTrue("not same", !x.same(7, 0)));
        lastTwo("compare and way", x -> checks.equal("compare", x.compare(7, 0, 2, 3), 1),
            x -> checks.equal("way", x.way(7), 1023));
        lastTwo("join and way", x -> checks.equal("join", x.join(7, 3, 0, 0), 1),
            x -> checks.equal("way", x.way(7), 1023));
        lastTwo("tidy twice", x -> checks.equal("tidy", x.tidy(1), 4), x -> checks.equal("tidy", x.tidy(2), 4));
        lastTwo("two refused calls", x -> checks.thrown("constant(8, 0)", x, y -> y.constant(8, 0), Checks.ILLEGAL),
            x -> checks.thrown("way(6)", x, y -> y.way(6), Checks.NO_SUCH));
        lastTwo("compare last", x -> x.constant(3, 0), x -> checks.equal("compare", x.compare(7, 0, 2, 3), 1));
        lastTwo("join last", x -> x.tidy(0), x -> checks.equal("join", x.join(7, 0, 0, 0), 1023));
        setsLast("constant", x -> x.constant(0, 1));
        setsLast("unknown", x -> x.unknown(0, 0, 10, 1));
        setsLast("reckon", x -> x.reckon(0, 2, 1, 2));
        setsLast("choose", x -> x.choose(0, 0, 1, 2));
    }

    /** What it has set is no longer promised to be told, but the call itself may not throw. */
    private void setsLast(String what, Checks.Call call512) {
        lastTwo(what + " last", x -> x.tidy(0), x -> checks.thrown(what, x, call512, Checks.NOTHING));
    }

    private void lastTwo(String what, Checks.Call call511, Checks.Call call512) {
        NumberCircuits x = new NumberCircuits();
        x.unknown(0, 0, 10, 0);
        x.constant(1, 3);
        x.reckon(2, 2, 0, 1);
        x.constant(3, 3069);
        x.compare(0, 2, 2, 3);
        for (int call = 6; call <= 510; call++) {
            checks.equal(what + ", call " + call, x.value(2, call), 3 * call);
        }
        call511.on(x);
        call512.on(x);
    }

    private void slots() {
        checks.range("the slot of constant", 7, (x, n) -> x.constant(n, 1));
        checks.range("the slot of unknown", 7, (x, n) -> x.unknown(n, 0, 10, 0));
        checks.range("the slot of reckon", 7, (x, n) -> x.reckon(n, 0, 1, 2));
        checks.range("a of reckon", 7, (x, n) -> x.reckon(3, 0, n, 2));
        checks.range("b of reckon", 7, (x, n) -> x.reckon(3, 0, 1, n));
        checks.range("a of compare", 7, (x, n) -> x.compare(3, 0, n, 2));
        checks.range("b of compare", 7, (x, n) -> x.compare(3, 0, 1, n));
        checks.range("the slot of choose", 7, (x, n) -> x.choose(n, 0, 1, 2));
        checks.range("a of choose", 7, (x, n) -> x.choose(3, 0, n, 2));
        checks.range("b of choose", 7, (x, n) -> x.choose(3, 0, 1, n));
        checks.range("the slot of value", 7, (x, n) -> x.value(n, 0));
        checks.range("a of same", 7, (x, n) -> x.same(n, 2));
        checks.range("b of same", 7, (x, n) -> x.same(1, n));
        NumberCircuits x = new NumberCircuits();
        for (int slot = 0; slot < 8; slot++) {
            x.constant(slot, 10 + slot);
        }
        for (int slot = 0; slot < 8; slot++) {
            checks.equal("slot " + slot + " beside the others, way 0", x.value(slot, 0), 10 + slot);
            checks.equal("slot " + slot + " beside the others, way 1023", x.value(slot, 1023), 10 + slot);
        }
    }

    private void zeroAtFirst() {
        for (int slot = 0; slot < 8; slot++) {
            checks.numberEverywhere("a new object", x -> { }, slot, w -> 0);
        }
    }

    private void smallestAndGreatest() {
        checks.numberEverywhere("the smallest", x -> x.constant(0, -32768), 0, w -> -32768);
        checks.numberEverywhere("the greatest", x -> x.constant(7, 32767), 7, w -> 32767);
    }

    private void ways() {
        checks.range("the way of value", 1023, (x, n) -> x.value(3, n));
        checks.numberEverywhere("each way its own", x -> x.unknown(0, 0, 10, 0), 0, w -> w);
        NumberCircuits x = Filled.made();
        int noWays = x.join(0, 3, 4, 4);
        int yesWays = x.join(0, 3, 0, 0);
        checks.equal("the ways of yes and of no together", yesWays + noWays, 1024);
    }

    private void bitsOfWays() {
        for (int bit = 0; bit < 10; bit++) {
            int v = bit;
            int alone = new int[] {1, 2, 4, 8, 16, 32, 64, 128, 256, 512}[bit];
            checks.numberEverywhere("bit " + v, x -> x.unknown(0, v, 1, 0), 0, w -> w / alone % 2);
        }
    }

    private void truths() {
        checks.range("the truth of compare", 7, (x, n) -> x.compare(n, 0, 1, 2));
        checks.range("the truth of choose", 7, (x, n) -> x.choose(3, n, 1, 2));
        checks.range("the truth of join", 7, (x, n) -> x.join(n, 0, 1, 2));
        checks.range("p of join", 7, (x, n) -> x.join(3, 0, n, 2));
        checks.range("q of join", 7, (x, n) -> x.join(3, 0, 1, n));
        checks.range("the truth of way", 7, (x, n) -> x.way(n));
        NumberCircuits x = new NumberCircuits();
        x.unknown(0, 0, 10, 0);
        for (int truth = 0; truth < 8; truth++) {
            x.constant(1, 1023 - truth);
            x.compare(truth, 0, 0, 1);
        }
        for (int truth = 0; truth < 8; truth++) {
            checks.equal("way of truth " + truth + " beside the others", x.way(truth), 1023 - truth);
            checks.equal("ways of truth " + truth + " beside the others", x.join(truth, 0, truth, truth), 1);
        }
    }

    private void noAtFirst() {
        for (int truth = 0; truth < 8; truth++) {
            int t = truth;
            checks.truthEverywhere("a new object", x -> { }, t, w -> 0);
            checks.equal("the ways of no", new NumberCircuits().join(t, 3, t, t), 1024);
            checks.thrown("way(" + t + ")", new NumberCircuits(), x -> x.way(t), Checks.NO_SUCH);
        }
    }

    private void numbersWrap() {
        checks.numberEverywhere("up from 32767", x -> x.unknown(0, 0, 10, 32767), 0,
            w -> w == 0 ? 32767 : w - 32769);
        checks.numberEverywhere("down from -32768", x -> {
            x.unknown(0, 0, 10, 0);
            x.constant(1, -32768);
            x.reckon(2, 1, 1, 0);
        }, 2, w -> w == 0 ? -32768 : 32768 - w);
        // What has wrapped goes on as the number that it has become.
        NumberCircuits x = new NumberCircuits();
        x.constant(0, 32767);
        x.constant(1, 1);
        x.reckon(2, 0, 0, 1);
        checks.equal("32767 + 1 is below 0", x.compare(0, 2, 2, 3), 1024);
        x.reckon(2, 1, 2, 1);
        checks.isTrue("32767 + 1 - 1 is 32767 again", x.same(2, 0));
    }

    /** On a new object there is no way, so way alone could throw either of the two. */
    private void orderOfThrown() {
        for (int number : new int[] {-1, 8, Integer.MIN_VALUE, Integer.MAX_VALUE}) {
            checks.thrown("way(" + number + ")", new NumberCircuits(), x -> x.way(number), Checks.ILLEGAL);
        }
        checks.thrown("way(0)", new NumberCircuits(), x -> x.way(0), Checks.NO_SUCH);
        checks.thrown("way(7)", new NumberCircuits(), x -> x.way(7), Checks.NO_SUCH);
        checks.refused("reckon with all numbers out", x -> x.reckon(8, 6, 8, 8));
        checks.refused("unknown with all numbers out", x -> x.unknown(-1, -1, -1, 0));
        checks.refused("only the last number out", x -> x.join(0, 3, 0, 8));
    }

    private void throwingChangesNothing() {
        checks.refused("constant", x -> x.constant(8, 5));
        checks.refused("unknown by its slot", x -> x.unknown(8, 0, 10, 5));
        checks.refused("unknown by its bits together", x -> x.unknown(3, 1, 10, 5));
        for (int kind = 0; kind < 6; kind++) {
            int k = kind;
            checks.refused("reckon kind " + k, x -> x.reckon(3, k, 4, 8));
        }
        checks.refused("reckon by its kind", x -> x.reckon(3, 6, 4, 5));
        checks.refused("compare", x -> x.compare(3, 1, 4, 8));
        checks.refused("compare by its kind", x -> x.compare(3, 4, 4, 5));
        checks.refused("choose", x -> x.choose(3, 4, 5, 8));
        checks.refused("join", x -> x.join(3, 2, 4, 8));
        checks.refused("join by its kind", x -> x.join(3, 4, 4, 5));
        checks.refused("value", x -> x.value(3, 1024));
        checks.refused("way", x -> x.way(8));
        checks.refused("same", x -> x.same(3, 8));
        checks.refused("tidy", x -> x.tidy(3));
        checks.noWayChangesNothing(0);
        checks.noWayChangesNothing(7);
    }

    private void newObjectsAreApart() {
        NumberCircuits used = Filled.made();
        NumberCircuits x = new NumberCircuits();
        for (int i = 0; i < 8; i++) {
            checks.equal("slot " + i + " beside another object, way 0", x.value(i, 0), 0);
            checks.equal("slot " + i + " beside another object, way 1023", x.value(i, 1023), 0);
            checks.equal("truth " + i + " beside another object", x.join(i, 0, i, i), 0);
        }
        checks.equal("tidy(0) of a new object", x.tidy(0), 0);
        checks.isTrue("the other object is what it was", Filled.isAsMade(used, 7));
    }
}
