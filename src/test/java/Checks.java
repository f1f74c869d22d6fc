import java.util.NoSuchElementException;

/** Counts and prints what is not as due; a test ends with finish(). */
final class Checks {
    /** A call whose answer does not matter, only whether it throws. */
    interface Call {
        void on(NumberCircuits x);
    }

    /** A call with one of its numbers left open. */
    interface OpenCall {
        void on(NumberCircuits x, int number);
    }

    /** What a number has to be for a way. */
    interface Due {
        int at(int way);
    }

    static final String ILLEGAL = "IllegalArgumentException";
    static final String NO_SUCH = "NoSuchElementException";
    static final String NOTHING = "nothing";

    private String about = "";
    private int made = 0;
    private int wrong = 0;

    /** What is printed before each fault from now on. */
    void about(String text) {
        about = text + ": ";
    }

    int made() {
        return made;
    }

    void equal(String what, long got, long due) {
        made++;
        if (got != due) {
            fail(what + " answered " + got + ", due is " + due);
        }
    }

    void isTrue(String what, boolean got) {
        made++;
        if (!got) {
            fail(what + " does not hold");
        }
    }

    void thrown(String what, NumberCircuits x, Call call, String due) {
        made++;
        String got = nameOfThrown(x, call);
        if (!got.equals(due)) {
            fail(what + " threw " + got + ", due is " + due);
        }
    }

    /** Refused, and every slot and truth is for every way what it was. */
    void refused(String what, Call call) {
        for (int scratch : Filled.SCRATCHES) {
            NumberCircuits x = Filled.made();
            thrown(what, x, call, ILLEGAL);
            isTrue(what + " changes nothing", Filled.isAsMade(x, scratch));
        }
    }

    /** The truth is turned to no before way looks for a yes in it. */
    void noWayChangesNothing(int truth) {
        NumberCircuits x = Filled.made();
        x.join(truth, 2, truth, truth);
        thrown("way(" + truth + ") of a truth that is no", x, y -> y.way(truth), NO_SUCH);
        equal("the yes ways of it then", x.join(truth, 0, truth, truth), 0);
        isTrue("the rest is what it was", Filled.isAsMade(x, truth));
    }

    /** The numbers 0 .. last are taken and those next to them, and the farthest, are not. */
    void range(String what, int last, OpenCall call) {
        for (int number = 0; number <= last; number++) {
            int right = number;
            thrown(what + " with " + right, Filled.made(), x -> call.on(x, right), NOTHING);
        }
        for (int wrong : new int[] {-1, last + 1, Integer.MIN_VALUE, Integer.MAX_VALUE}) {
            refused(what + " with " + wrong, x -> call.on(x, wrong));
        }
    }

    /** All 1024 ways, on a new object for every 256, as an object is good for 512 calls. */
    void numberEverywhere(String what, Call calls, int slot, Due due) {
        for (int from = 0; from < 1024; from += 256) {
            NumberCircuits x = new NumberCircuits();
            calls.on(x);
            for (int w = from; w < from + 256; w++) {
                equal(what + ": value(" + slot + ", " + w + ")", x.value(slot, w), due.at(w));
            }
        }
    }

    /** A truth is seen for each way as a number that is 1 where it is yes. */
    void truthEverywhere(String what, Call calls, int truth, Due due) {
        Call shown = x -> {
            calls.on(x);
            x.constant(6, 0);
            x.constant(7, 1);
            x.choose(5, truth, 7, 6);
        };
        numberEverywhere(what + ", truth " + truth, shown, 5, due);
    }

    static int wrapped(long v) {
        return (int) Math.floorMod(v + 32768L, 65536L) - 32768;
    }

    /** By magnitudes and signs and not by Java's own division, which the program uses. */
    static int dueReckoned(int kind, int a, int b) {
        long quotient = 0;
        long remainder = 0;
        if (b != 0) {
            long magnitude = Math.floorDiv(Math.abs((long) a), Math.abs((long) b));
            quotient = (a < 0) == (b < 0) ? magnitude : -magnitude;
            remainder = a - quotient * b;
        }
        long[] all = {(long) a + b, (long) a - b, (long) a * b, quotient, remainder, -(long) b};
        return wrapped(all[kind]);
    }

    /** The class itself, as a subclass of what the document names would be something else. */
    static String nameOfThrown(NumberCircuits x, Call call) {
        try {
            call.on(x);
        } catch (RuntimeException e) {
            return e.getClass().getSimpleName();
        }
        return NOTHING;
    }

    static int wayOrNone(NumberCircuits x, int truth) {
        try {
            return x.way(truth);
        } catch (NoSuchElementException e) {
            return -1;
        }
    }

    void fail(String text) {
        wrong++;
        System.out.println(about + text);
    }

    void finish() {
        System.out.println(made + " checks, " + wrong + " not as due");
        if (wrong != 0 || made == 0) {
            System.exit(1);
        }
    }
}
