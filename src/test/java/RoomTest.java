import com.sun.management.ThreadMXBean;
import java.lang.management.ManagementFactory;

/** The dearest calls, 512 on one object, stay far below the room that all calls of a run share. */
public final class RoomTest {
    private static final Check CHECK = new Check("RoomTest");
    private static final ThreadMXBean THREADS = (ThreadMXBean) ManagementFactory.getThreadMXBean();
    private static final int CALLS = 470;

    /** Two LAWS, a MAP, and ROWS that tell them. */
    private static WordBench bench() {
        WordBench bench = Check.benchWithSheet();
        Check.fill(bench, 0, 0, "0101");
        bench.law(5, 0, 0);
        bench.law(1, 7, 4);
        Check.fill(bench, 0, 1, "012");
        Check.fill(bench, 0, 2, "102");
        Check.fill(bench, 0, 3, "201");
        bench.map(0, 3, 0, 1);
        return bench;
    }

    /** A call's bytes: if it made anything at each LOOK it would need megabytes. */
    private static void small(String what, int most, Twins.Asked call) {
        call.ask(bench());
        WordBench bench = bench();
        long before = THREADS.getCurrentThreadAllocatedBytes();
        for (int i = 0; i < CALLS; i++) {
            call.ask(bench);
        }
        long made = THREADS.getCurrentThreadAllocatedBytes() - before;
        CHECK.alike(what + " made " + made + " bytes, within " + most, Boolean.toString(made <= most), "true");
    }

    public static void main(String[] args) {
        small("new objects", CALLS * 20000, of -> bench().count(0));
        small("row", 20000, of -> of.row(0, 9, 80));
        small("law", CALLS * 300, of -> of.law(5, 0, 0));
        small("clash", 20000, of -> of.clash(3, 0, 0, 3));
        small("many", 20000, of -> of.many(2, 3, 12));
        small("find", 20000, of -> of.find(3, 3, 12, 5, 0));
        small("longest", 20000, of -> of.longest(1, 3));
        small("map", 20000, of -> of.map(0, 3, 0, 1));
        small("keeps", 20000, of -> of.keeps(0, 0));
        small("at", 20000, of -> of.at(0, 0, Integer.MAX_VALUE));
        small("shape", 20000, of -> of.shape(0, 2));
        CHECK.end();
    }
}
