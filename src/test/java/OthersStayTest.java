/** A call changes the slot or the truth that it sets and no other; a call that only looks, none. */
public final class OthersStayTest {
    private static final Checks checks = new Checks();

    public static void main(String[] args) {
        for (int target = 0; target < 8; target++) {
            slotsAndTruthsBeside(target);
        }
        lookingChangesNothing();
        checks.finish();
    }

    private static void slotsAndTruthsBeside(int target) {
        slotAlone("constant", target, x -> x.constant(target, -1));
        slotAlone("unknown", target, x -> x.unknown(target, 2, 7, 30000));
        for (int other = 0; other < 8; other++) {
            int o = other;
            slotAlone("choose by truth " + o, target, x -> x.choose(target, o, (o + 3) % 8, (o + 5) % 8));
            for (int kind = 0; kind < 6; kind++) {
                int k = kind;
                slotAlone("reckon kind " + k, target, x -> x.reckon(target, k, o, (o + 3) % 8));
            }
            for (int kind = 0; kind < 4; kind++) {
                int k = kind;
                truthAlone("compare kind " + k, target, x -> x.compare(target, k, o, (o + 3) % 8));
                truthAlone("join kind " + k, target, x -> x.join(target, k, o, (o + 3) % 8));
            }
        }
    }

    private static void slotAlone(String what, int slot, Checks.Call call) {
        staysBut(what + " into slot " + slot, slot, Filled.NONE, call);
    }

    private static void truthAlone(String what, int truth, Checks.Call call) {
        staysBut(what + " into truth " + truth, Filled.NONE, truth, call);
    }

    private static void lookingChangesNothing() {
        for (int i = 0; i < 8; i++) {
            int at = i;
            staysBut("value", Filled.NONE, Filled.NONE, x -> x.value(at, 341));
            staysBut("way", Filled.NONE, Filled.NONE, x -> x.way(at));
            staysBut("same of two", Filled.NONE, Filled.NONE, x -> x.same(at, 7 - at));
            staysBut("same of one", Filled.NONE, Filled.NONE, x -> x.same(at, at));
        }
        for (int what = 0; what < 3; what++) {
            int w = what;
            staysBut("tidy", Filled.NONE, Filled.NONE, x -> x.tidy(w));
        }
    }

    private static void staysBut(String what, int slot, int truth, Checks.Call call) {
        for (int scratch : Filled.SCRATCHES) {
            NumberCircuits x = Filled.made();
            call.on(x);
            checks.isTrue(what + " leaves the others", Filled.isAsMadeBut(x, scratch, slot, truth));
        }
    }
}
