import java.lang.management.ManagementFactory;

/** What an object and the dearest calls on it take of the room that all calls of a run share. */
public final class RoomTest {
    // An eighth of the room of 7.3 million elements, at four bytes each.
    private static final long MOST_BYTES_A_RUN = 7300000L / 8 * 4;
    private static final long MOST_BYTES_AN_OBJECT = 16000;

    private static long allocated() {
        return ((com.sun.management.ThreadMXBean) ManagementFactory.getThreadMXBean()).getCurrentThreadAllocatedBytes();
    }

    public static void main(String[] args) {
        dearRun();
        long before = allocated();
        dearRun();
        long run = allocated() - before;
        before = allocated();
        new FleetStores();
        long object = allocated() - before;
        System.out.println(run + " bytes a run, " + object + " an object");
        Check.yes("a run of dear calls takes " + run + " bytes", run <= MOST_BYTES_A_RUN);
        Check.yes("a new object takes " + object + " bytes", object <= MOST_BYTES_AN_OBJECT);
        Check.end();
    }

    /** More than 512 calls: every limit of the document is reached. */
    private static void dearRun() {
        FleetStores x = new FleetStores();
        for (int i = 0; i < 300; i++) {
            x.men(i % 8, i % 40);
            x.buy(i % 8, i % 10, i % 4, 5000, i % 8, i);
            x.draw(i, 40, i);
            x.feed(0x6B3D303A, 0x313B6B3D, 0x313A3100, 0, 0);
            x.contract(i % 10);
            x.week();
            x.lasts(i % 8);
            x.survey(i % 8, i % 4, i / 2, i);
            x.balance(i % 8, i % 4);
            x.owed(i % 10);
        }
    }
}
