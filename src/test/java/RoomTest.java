import java.lang.management.ManagementFactory;

/** The room of a run: the dearest calls make no objects (rule 12 of LANGUAGE.md). */
public final class RoomTest {
    private static final int CALLS = 512;
    private static final long BYTES_AT_MOST = 16_384;

    public static void main(String[] args) {
        EndingsLab x = dear();
        many(x);
        com.sun.management.ThreadMXBean beans = (com.sun.management.ThreadMXBean) ManagementFactory.getThreadMXBean();
        long before = beans.getCurrentThreadAllocatedBytes();
        many(x);
        long bytes = beans.getCurrentThreadAllocatedBytes() - before;
        Bench.due(CALLS + " dear runs make " + bytes + " bytes, at most " + BYTES_AT_MOST, bytes <= BYTES_AT_MOST);
        Bench.due("the dear run is LATE", x.run(0, 0, false), EndingsLab.LATE);
        Bench.finish("RoomTest");
    }

    /** A run that goes down all levels of calls and makes many faults and notes until it is LATE. */
    private static EndingsLab dear() {
        return Bench.lab("TRY 1 CALL 0 END CATCH 5 CALL 1 END CALL 1 CALL 1 END",
            "TIMES 5 TIMES 5 TIMES 5 TRY 1 DIVIDE 0 END CATCH 6 NOTE 1 END END END END END");
    }

    private static void many(EndingsLab x) {
        for (int i = 0; i < CALLS; i++) {
            x.run(0, i, false);
            x.check(1);
            x.place();
            x.fault(1);
            x.event(31);
        }
    }
}
