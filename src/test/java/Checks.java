import java.util.NoSuchElementException;

/** Counts and prints what is not as due; a test ends with finish(). */
final class Checks {
    /** A call whose answer does not matter, only whether it throws. */
    interface Call {
        void on(NumberCircuits x);
    }

    private int made = 0;
    private int wrong = 0;

    void equal(String what, long got, long due) {
        made++;
        if (got != due) {
            fail(what + " answered " + got + ", due is " + due);
        }
    }

    void isTrue(String what, boolean got) {
        made++;
        if (!got) {
            fail(what + " does not hold");
        }
    }

    void thrown(String what, NumberCircuits x, Call call, String due) {
        made++;
        String got = nameOfThrown(x, call);
        if (!got.equals(due)) {
            fail(what + " threw " + got + ", due is " + due);
        }
    }

    /** The class itself, as a subclass of what the document names would be something else. */
    static String nameOfThrown(NumberCircuits x, Call call) {
        try {
            call.on(x);
        } catch (RuntimeException e) {
            return e.getClass().getSimpleName();
        }
        return "nothing";
    }

    static int wayOrNone(NumberCircuits x, int truth) {
        try {
            return x.way(truth);
        } catch (NoSuchElementException e) {
            return -1;
        }
    }

    private void fail(String text) {
        wrong++;
        System.out.println(text);
    }

    void finish() {
        System.out.println(made + " checks, " + wrong + " not as due");
        if (wrong != 0 || made == 0) {
            System.exit(1);
        }
    }
}
