/** Promises 10 and 11: events are counted over all runs, and the newest 32 are kept. */
public final class EventsTest {
    private static final int REFUSED = EndingsLab.REFUSED;

    public static void main(String[] args) {
        counting();
        keeping();
        Bench.finish("EventsTest");
    }

    private static void counting() {
        EndingsLab x = Bench.lab("NOTE -1 NOTE 2147483647 NOTE -2147483648 END", "NOTE 5 RAISE 1 END", "NOTE 6 DIVIDE 0 NOTE 7 END");
        x.run(0, 0, false);
        Bench.noted(x, Integer.MIN_VALUE, Integer.MAX_VALUE, -1);
        Bench.due("event(3) of three", x.event(3), REFUSED);
        Bench.due("event(-1)", x.event(-1), REFUSED);
        Bench.due("event(MIN)", x.event(Integer.MIN_VALUE), REFUSED);
        Bench.due("event(MAX)", x.event(Integer.MAX_VALUE), REFUSED);
        x.run(1, 0, false);
        x.run(2, 0, true);
        Bench.noted(x, 6, 5, Integer.MIN_VALUE, Integer.MAX_VALUE, -1);
        x.wipe(0);
        x.run(0, 0, false);
        x.run(7, 0, false);
        Bench.due("events() after WRONG and REFUSED runs", x.events(), 5);
    }

    private static void keeping() {
        EndingsLab x = Bench.lab("NOTE 1 END");
        for (int n = 1; n <= 70; n++) {
            Bench.rewrite(x, 0, "NOTE " + n + " END");
            x.run(0, 0, false);
            Bench.due("events() after " + n, x.events(), n);
            Bench.due("event(31) after " + n, x.event(31), n >= 32 ? n - 31 : REFUSED);
        }
        for (int i = 0; i < 32; i++) {
            Bench.due("event(" + i + ") of 70", x.event(i), 70 - i);
        }
        Bench.due("event(32) of 70", x.event(32), REFUSED);
    }
}
