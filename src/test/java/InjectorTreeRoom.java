import com.sun.management.ThreadMXBean;
import java.lang.management.ManagementFactory;

/**
 * All calls of a run live in one room, with nothing ever given back: so no call may make objects
 * but those that bind, whose share is small. The dearest runs of 512 calls are measured here.
 */
public final class InjectorTreeRoom {
    private static final int CALLS = 512;
    /**
     * A new object and its bindings take under 50,000 bytes; a row of four made for each instance
     * that broken tries would take over ten million.
     */
    private static final long MOST_BYTES = 150_000;

    private static int wrong = 0;

    private static final ThreadMXBean THREADS =
            (ThreadMXBean) ManagementFactory.getThreadMXBean();

    private static long allocated() {
        return THREADS.getThreadAllocatedBytes(Thread.currentThread().getId());
    }

    private interface Work {
        void run(InjectorTree x);
    }

    private static void measure(String name, Work work) {
        long before = allocated();
        InjectorTree x = new InjectorTree();
        work.run(x);
        long bytes = allocated() - before;
        if (bytes > MOST_BYTES) {
            wrong++;
            System.out.println(name + " allocates " + bytes + " bytes, above " + MOST_BYTES);
        }
    }

    /** Twelve keys that each try for more instances than there can be, or nearly so. */
    private static int bindWide(InjectorTree x) {
        int calls = 0;
        for (int key = 0; key < 12; key++) {
            for (int need = 0; need < 4 && key > 0; need++) {
                x.need(Math.max(0, key - 1 - need % 2), false);
                calls++;
            }
            x.bindClass(0, key, 0);
            calls++;
        }
        return calls;
    }

    private static void manyBroken(InjectorTree x) {
        for (int calls = bindWide(x); calls < CALLS; calls++) {
            x.broken(0);
        }
    }

    private static void manyFull(InjectorTree x) {
        for (int calls = bindWide(x); calls < CALLS; calls++) {
            x.get(0, 11);
        }
    }

    private static void manyReach(InjectorTree x) {
        for (int calls = bindWide(x); calls < CALLS; calls++) {
            x.reach(0, 11);
        }
    }

    private static void manyBindings(InjectorTree x) {
        for (int calls = 0; calls < CALLS; calls += 2) {
            x.bindClass(0, 0, 1);
            x.unbind(0, 0);
        }
    }

    public static void main(String[] args) {
        measure("warming up", InjectorTreeRoom::manyBindings);
        wrong = 0;
        measure("broken", InjectorTreeRoom::manyBroken);
        measure("get", InjectorTreeRoom::manyFull);
        measure("reach", InjectorTreeRoom::manyReach);
        measure("bindClass", InjectorTreeRoom::manyBindings);
        if (wrong != 0) {
            System.exit(1);
        }
    }
}
