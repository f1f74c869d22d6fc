/** An object whose slots and truths are all unlike one another and hang on the bits. */
final class Filled {
    /** A look needs a slot and a truth to build in, so two looks, with one each, see all of them. */
    static final int[] SCRATCHES = {7, 0};
    /** Stands for a slot or a truth where none may be otherwise. */
    static final int NONE = -1;

    private static final int[] SOME_WAYS = {0, 1, 49, 50, 341, 512, 682, 1023};

    private Filled() {
    }

    static NumberCircuits made() {
        NumberCircuits x = new NumberCircuits();
        for (int i = 0; i < 8; i++) {
            fillTruth(x, i, i);
        }
        for (int i = 0; i < 8; i++) {
            fillSlot(x, i, i);
        }
        return x;
    }

    /** Slot i of a filled object is w - 100 * i - 50 for way w. */
    private static void fillSlot(NumberCircuits x, int slot, int i) {
        x.unknown(slot, 0, 10, -100 * i - 50);
    }

    /** Truth i of a filled object is yes for the ways below 100 * i + 50; slots 0 and 1 are lost. */
    private static void fillTruth(NumberCircuits x, int truth, int i) {
        fillSlot(x, 0, i);
        x.constant(1, 0);
        x.compare(truth, 2, 0, 1);
    }

    /** All slots and truths but the scratch ones, for all ways; the object is spent by that. */
    static boolean isAsMade(NumberCircuits x, int scratch) {
        return isAsMadeBut(x, scratch, scratch, scratch);
    }

    /** The same, but for one slot and one truth more that may be otherwise. */
    static boolean isAsMadeBut(NumberCircuits x, int scratch, int slot, int truth) {
        boolean[] slots = looked(scratch, slot);
        return someValues(x, slots) && allSlots(x, scratch, slots) && allTruths(x, scratch, looked(scratch, truth));
    }

    private static boolean[] looked(int scratch, int other) {
        boolean[] looked = new boolean[8];
        for (int i = 0; i < 8; i++) {
            looked[i] = i != scratch && i != other;
        }
        return looked;
    }

    private static boolean someValues(NumberCircuits x, boolean[] looked) {
        boolean right = true;
        for (int i = 0; i < 8; i++) {
            for (int w : SOME_WAYS) {
                right &= !looked[i] || x.value(i, w) == w - 100 * i - 50;
            }
        }
        return right;
    }

    private static boolean allSlots(NumberCircuits x, int scratch, boolean[] looked) {
        boolean right = true;
        for (int i = 0; i < 8; i++) {
            fillSlot(x, scratch, i);
            right &= !looked[i] || x.same(i, scratch);
        }
        return right;
    }

    private static boolean allTruths(NumberCircuits x, int scratch, boolean[] looked) {
        boolean right = true;
        for (int i = 0; i < 8; i++) {
            fillTruth(x, scratch, i);
            right &= !looked[i] || x.join(scratch, 2, i, scratch) == 0;
        }
        return right;
    }
}
