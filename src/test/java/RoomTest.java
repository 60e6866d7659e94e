import com.sun.management.ThreadMXBean;
import java.lang.management.ManagementFactory;

/** The dearest calls, 512 on one object, stay far below the room that all calls of a run share. */
public final class RoomTest {
    private static final Check CHECK = new Check("RoomTest");
    private static final ThreadMXBean THREADS = (ThreadMXBean) ManagementFactory.getThreadMXBean();
    private static final int CALLS = 500;

    private static WordBench bench() {
        WordBench bench = Check.benchWithSheet();
        Check.fill(bench, 0, 0, 0, 1, 0, 1);
        bench.law(5, 0, 0);
        bench.law(1, 7, 4);
        return bench;
    }

    /** An answer with its bytes: a call that makes anything at each LOOK would need megabytes. */
    private static void small(String what, int most, Check.Call call) {
        Check.outcome(call);
        long before = THREADS.getCurrentThreadAllocatedBytes();
        for (int i = 0; i < CALLS; i++) {
            call.ask();
        }
        long made = THREADS.getCurrentThreadAllocatedBytes() - before;
        CHECK.alike(what + " made " + made + " bytes, within " + most, Boolean.toString(made <= most), "true");
    }

    public static void main(String[] args) {
        small("new objects", CALLS * 20000, () -> bench().count(0));
        WordBench bench = bench();
        small("row", 20000, () -> bench.row(0, 9, 80));
        small("law", CALLS * 300, () -> bench.law(5, 0, 0));
        small("clash", 20000, () -> bench.clash(3, 0, 0, 3));
        small("many", 20000, () -> bench.many(2, 3, 12));
        small("find", 20000, () -> bench.find(3, 3, 12, 5, 0));
        small("longest", 20000, () -> bench.longest(1, 3));
        Check.fill(bench, 0, 1, 0, 1, 2);
        Check.fill(bench, 0, 2, 1, 0, 2);
        Check.fill(bench, 0, 3, 2, 0, 1);
        small("map", 20000, () -> bench.map(0, 3, 0, 1));
        small("keeps", 20000, () -> bench.keeps(0, 0));
        small("at", 20000, () -> bench.at(0, 0, Integer.MAX_VALUE));
        small("shape", 20000, () -> bench.shape(0, 2));
        CHECK.end();
    }
}
