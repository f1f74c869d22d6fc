import java.util.NoSuchElementException;

/** Runs of 512 mixed calls, wrong ones among them, each answer held against the model's. */
public final class LongRunsTest {
    private static final int RUNS = 120;
    private static final int CALLS = 512;
    private static final String[] NAMES = {
        "constant", "unknown", "reckon", "compare", "choose", "join", "value", "way", "same", "tidy"
    };
    private static final Checks checks = new Checks();

    /** A fixed rule and not a random source: every run of the tests makes the same calls. */
    private static final class Dice {
        private long state;

        Dice(long seed) {
            state = seed * 0x9E3779B97F4A7C15L + 12345;
        }

        int below(int bound) {
            state = state * 6364136223846793005L + 1442695040888963407L;
            return (int) ((state >>> 33) % bound);
        }
    }

    public static void main(String[] args) {
        for (int run = 0; run < RUNS; run++) {
            oneRun(run);
        }
        checks.finish();
    }

    private static void oneRun(int run) {
        Dice dice = new Dice(run + 1);
        NumberCircuits x = new NumberCircuits();
        Model model = new Model();
        for (int call = 0; call < CALLS; call++) {
            int what = pick(dice, call);
            int[] a = arguments(dice, what);
            String text = "run " + run + ", call " + call + ": " + NAMES[what] + java.util.Arrays.toString(a);
            checks.equal(text, answer(x, what, a), due(model, what, a));
        }
    }

    /** Unknowns come first, as a run that starts on zeros alone would learn little. */
    private static int pick(Dice dice, int call) {
        if (call < 6) {
            return 1;
        }
        int[] weighted = {0, 1, 1, 2, 2, 2, 2, 2, 3, 3, 4, 4, 5, 5, 6, 6, 6, 6, 7, 7, 8, 9};
        return weighted[dice.below(weighted.length)];
    }

    private static int[] arguments(Dice dice, int what) {
        int[] a = {dice.below(8), dice.below(8), dice.below(8), dice.below(8)};
        switch (what) {
            case 0: a[1] = anyNumber(dice); break;
            case 1:
                a[1] = dice.below(11);
                a[2] = dice.below(11 - a[1]);
                a[3] = anyNumber(dice);
                break;
            case 2: a[1] = dice.below(6); break;
            case 3: case 5: a[1] = dice.below(4); break;
            case 6: a[1] = dice.below(1024); break;
            case 9: a[0] = dice.below(3); break;
            default: break;
        }
        if (dice.below(25) == 0) {
            int[] wrongs = {-1, 3, 4, 6, 8, 11, 1024, Integer.MAX_VALUE, Integer.MIN_VALUE};
            a[dice.below(4)] = wrongs[dice.below(wrongs.length)];
        }
        return a;
    }

    private static int anyNumber(Dice dice) {
        switch (dice.below(4)) {
            case 0: return dice.below(21) - 10;
            case 1: return dice.below(65536) - 32768;
            case 2: return 32760 + dice.below(16);
            default: return dice.below(Integer.MAX_VALUE) * (dice.below(2) * 2 - 1);
        }
    }

    private static long answer(NumberCircuits x, int what, int[] a) {
        try {
            switch (what) {
                case 0: x.constant(a[0], a[1]); return 0;
                case 1: x.unknown(a[0], a[1], a[2], a[3]); return 0;
                case 2: x.reckon(a[0], a[1], a[2], a[3]); return 0;
                case 3: return x.compare(a[0], a[1], a[2], a[3]);
                case 4: x.choose(a[0], a[1], a[2], a[3]); return 0;
                case 5: return x.join(a[0], a[1], a[2], a[3]);
                case 6: return x.value(a[0], a[1]);
                case 7: return x.way(a[0]);
                case 8: return x.same(a[0], a[1]) ? 1 : 0;
                default: return x.tidy(a[0]);
            }
        } catch (IllegalArgumentException e) {
            return Model.ILLEGAL;
        } catch (NoSuchElementException e) {
            return Model.NONE;
        }
    }

    private static long due(Model model, int what, int[] a) {
        switch (what) {
            case 0: return model.constant(a[0], a[1]);
            case 1: return model.unknown(a[0], a[1], a[2], a[3]);
            case 2: return model.reckon(a[0], a[1], a[2], a[3]);
            case 3: return model.compare(a[0], a[1], a[2], a[3]);
            case 4: return model.choose(a[0], a[1], a[2], a[3]);
            case 5: return model.join(a[0], a[1], a[2], a[3]);
            case 6: return model.value(a[0], a[1]);
            case 7: return model.way(a[0]);
            case 8: return model.same(a[0], a[1]);
            default: return model.tidy(a[0]);
        }
    }
}
