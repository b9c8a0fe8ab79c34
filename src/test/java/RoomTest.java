import java.lang.management.ManagementFactory;

/** All calls of a run live in one room: an object is small, and its calls make nothing. */
public final class RoomTest {
    private static final Due DUE = new Due();
    /** A call that made one object of 16 bytes each time would be far beyond. */
    private static final long SLACK = 20_000;
    private static final int TIMES = 10_000;

    private static final com.sun.management.ThreadMXBean THREADS =
        (com.sun.management.ThreadMXBean) ManagementFactory.getThreadMXBean();

    public static void main(String[] args) {
        long before = THREADS.getCurrentThreadAllocatedBytes();
        TaughtClocks[] many = new TaughtClocks[1000];
        for (int i = 0; i < many.length; i++) {
            many[i] = new TaughtClocks();
        }
        long each = (THREADS.getCurrentThreadAllocatedBytes() - before) / many.length;
        DUE.is("an object takes more than 8000 bytes: " + each, 0, each > 8000 ? 1 : 0);
        TaughtClocks x = many[0];
        allCalls(x, 100);
        before = THREADS.getCurrentThreadAllocatedBytes();
        allCalls(x, TIMES);
        long made = THREADS.getCurrentThreadAllocatedBytes() - before;
        DUE.is("the calls made " + made + " bytes", 0, made > SLACK ? 1 : 0);
        DUE.end("RoomTest");
    }

    private static void allCalls(TaughtClocks x, int times) {
        for (int i = 0; i < times; i++) {
            build(x);
            x.pass(i % 20 + 1);
            x.teach(i % 5, (i + 1) % 5);
            x.set(i % 5);
            x.oil(i % 5);
            x.keep();
            if (i % 5 == 0) {
                x.back();
                x.undo();
            }
            ask(x, i);
        }
    }

    private static void build(TaughtClocks x) {
        x.wipe();
        x.write('c');
        x.write('0');
        x.fault();
        x.lay();
    }

    private static void ask(TaughtClocks x, int i) {
        x.clock(i % 5, i % 4);
        x.wall(0, 1);
        x.noon();
        x.behind(i % 61, -1);
        x.hear(i % 5, 600);
        x.taught(1);
        x.setter(1);
        x.forget();
        x.child(i % 5);
        x.dull();
        x.pairs(-1);
        x.count(4);
        if (i % 50 == 0) {
            x.right(i % 100, 2);
            x.ring(1);
            x.oils(i % 5, 30, 0);
            x.draughts(i % 5, 6, 5, 0);
            x.year(i % 10000, 60, 1);
        }
    }
}
