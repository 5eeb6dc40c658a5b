import java.lang.management.ManagementFactory;

/** What runs of 512 calls allocate in all: they live in one room, from which nothing is cleared. */
public final class RoomTest {
    private static final int CALLS = 512;
    // The room holds 7.3 million fields and elements; an element has four bytes at most here, and a
    // run must stay far below, as an object's head is counted in these bytes too.
    private static final long MOST_BYTES = 4L * 1_000_000;
    private static final String CITY = "pace 10 10;bonus 60 9;fare minutes*2+hour;station 0 0 9 5;station 4 3 6 2;"
            + "station 9 9 4 4;station 5 5 20 0;station 3 3 20 20;station 8 8 9 0;station 7 1 9 9;station 1 7 9 1;"
            + "truck 0 6;truck 1 2;trip 0 1 3;trip 1 2 9;trip 2 0 70;";

    private interface Run {
        void play(BikeShare x, int call);
    }

    private RoomTest() {
    }

    public static void main(String[] args) {
        measure("new objects", (x, i) -> new BikeShare());
        measure("changes", (x, i) -> x.cancel(0));
        measure("passing", (x, i) -> x.pass(1 + i % 30));
        measure("renting and undoing", (x, i) -> {
            x.rent(4, 3);
            x.undo();
        });
        measure("forecasts", (x, i) -> x.forecast(1440, i % 6));
        measure("running out", (x, i) -> x.runsOut(i % 8, i % 3 == 0));
        measure("tours", (x, i) -> x.tourStop(0, i % 8));
        measure("snapshots", (x, i) -> {
            x.saveSnapshot(i % 2);
            x.restoreSnapshot(i % 2);
        });
        measure("parsing", (x, i) -> x.parse(x.append(0x20202020, 0x66617265, 0x20312b32, 0x2b332b34, 0x3b202020)));
        measure("deals", (x, i) -> x.bestDeal(i % x.size(0)));
        Check.end("RoomTest");
    }

    private static void measure(String what, Run run) {
        com.sun.management.ThreadMXBean threads =
                (com.sun.management.ThreadMXBean) ManagementFactory.getThreadMXBean();
        long id = Thread.currentThread().getId();
        long best = Long.MAX_VALUE;
        // The machine's own first-time work counts too, so the leanest of some runs is taken.
        for (int round = 0; round < 3; round++) {
            BikeShare x = Check.city(CITY);
            long before = threads.getThreadAllocatedBytes(id);
            for (int i = 0; i < CALLS; i++) {
                run.play(x, i);
            }
            best = Math.min(best, threads.getThreadAllocatedBytes(id) - before);
        }
        System.out.println("RoomTest: " + what + " took " + best + " bytes in " + CALLS + " calls");
        long most = what.equals("new objects") ? 4L * MOST_BYTES : MOST_BYTES / 10;
        Check.due(what + " stays in " + most + " bytes", best <= most, true);
    }
}
