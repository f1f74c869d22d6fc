import java.lang.management.ManagementFactory;

/** All calls of a run live in one room (rule 12): an object stays small, and its calls make nothing. */
public final class RoomTest {
    /** What is left of 512 when the object has been filled and the call has been made once. */
    private static final int CALLS = 479;

    /** No object is smaller than 16 bytes, so less than this is less than one object a call. */
    private static final int ROOM_OF_CALLS = 16 * CALLS;

    /** 9216 elements take some twenty thousand bytes. */
    private static final int ROOM_OF_OBJECT = 32768;

    private static final com.sun.management.ThreadMXBean BEAN =
        (com.sun.management.ThreadMXBean) ManagementFactory.getThreadMXBean();
    private static final Checks checks = new Checks();

    public static void main(String[] args) {
        roomOfObject();
        roomOf("constant", x -> x.constant(2, 70000));
        roomOf("unknown", x -> x.unknown(2, 3, 4, 70000));
        for (int kind = 0; kind < 6; kind++) {
            int k = kind;
            roomOf("reckon kind " + k, x -> x.reckon(2, k, 3, 4));
        }
        for (int kind = 0; kind < 4; kind++) {
            int k = kind;
            roomOf("compare kind " + k, x -> x.compare(2, k, 3, 4));
            roomOf("join kind " + k, x -> x.join(2, k, 3, 4));
        }
        roomOf("choose", x -> x.choose(2, 3, 4, 5));
        roomOf("value", x -> x.value(2, 1023));
        roomOf("way", x -> x.way(2));
        roomOf("same", x -> x.same(2, 2));
        for (int what = 0; what < 3; what++) {
            int w = what;
            roomOf("tidy " + w, x -> x.tidy(w));
        }
        checks.finish();
    }

    private static void roomOfObject() {
        NumberCircuits first = new NumberCircuits();
        long before = BEAN.getCurrentThreadAllocatedBytes();
        NumberCircuits second = new NumberCircuits();
        long made = BEAN.getCurrentThreadAllocatedBytes() - before;
        checks.isTrue("two objects", first != second);
        checks.isTrue("the room of an object: " + made, made < ROOM_OF_OBJECT);
    }

    /** Once before it counts, as what Java itself makes for the first call is not the program's. */
    private static void roomOf(String what, Checks.Call call) {
        NumberCircuits x = Filled.made();
        call.on(x);
        long before = BEAN.getCurrentThreadAllocatedBytes();
        for (int i = 0; i < CALLS; i++) {
            call.on(x);
        }
        long made = BEAN.getCurrentThreadAllocatedBytes() - before;
        checks.isTrue("the room of " + CALLS + " times " + what + ": " + made, made < ROOM_OF_CALLS);
    }
}
