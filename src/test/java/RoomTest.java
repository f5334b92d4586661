import java.lang.management.ManagementFactory;

/** All calls of a run live in one room: no call makes an object, and a new CounterBraid is small. */
public final class RoomTest {
    private static final int CALLS = 512;
    // What the meter itself and the first use of a class may take, far below an object for each call.
    private static final long SLACK = 4096;
    private static final long MOST_FOR_NEW = 64 * 1024;

    public static void main(String[] args) {
        Check check = new Check();
        use(new CounterBraid());
        long start = allocated();
        CounterBraid x = new CounterBraid();
        long made = allocated() - start;
        check.due("bytes of a new object beyond " + MOST_FOR_NEW, Math.max(0, made - MOST_FOR_NEW), 0);
        start = allocated();
        use(x);
        long used = allocated() - start;
        check.due("bytes of " + CALLS + " calls beyond " + SLACK, Math.max(0, used - SLACK), 0);
        check.end("RoomTest");
    }

    private static long allocated() {
        com.sun.management.ThreadMXBean meter = (com.sun.management.ThreadMXBean) ManagementFactory.getThreadMXBean();
        return meter.getThreadAllocatedBytes(Thread.currentThread().getId());
    }

    /** Every method of the class, in 512 calls. */
    private static void use(CounterBraid x) {
        for (int i = 0; i < 16; i++) {
            x.addFlow(i * 7);
            x.type(i % 2 == 0 ? '7' : ';');
        }
        x.type('0');
        for (int turn = 0; turn < 12; turn++) {
            change(x, turn);
            ask(x, turn);
        }
    }

    private static void change(CounterBraid x, int turn) {
        x.setFirst(24, 1, 4);
        x.setSecond(8, 3);
        x.setRounds(60);
        x.count(0, turn, 1000);
        x.count(1, turn, 77);
        x.addBraid(0, 1);
        x.clear(0);
        x.load();
        x.undo();
    }

    private static void ask(CounterBraid x, int turn) {
        x.form(turn);
        x.key(turn);
        x.flowOf(turn);
        x.places(turn);
        x.placesAbove(turn);
        x.truth(1, turn);
        x.rest(1, turn);
        x.isMarked(1, turn);
        x.above(1, turn);
        x.overflow(1, turn, true);
        x.bound(1, turn, false);
        x.boundAfter(1, turn, true, 60);
        x.certain(1);
        x.certainOverflows(1);
        x.lastRound(1);
        x.total(1, 2);
        x.estimate(1, turn);
        x.leastPlace(1, turn);
        x.widest(1);
        x.leastSpace(1);
        x.bits();
        x.bitsForEach();
        x.textFault();
        x.digest();
        if (turn == 11) {
            x.clearText();
        }
    }
}
