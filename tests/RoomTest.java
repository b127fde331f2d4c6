import java.lang.management.ManagementFactory;

/** All calls of a run live in one room: what the dearest calls allocate is counted. */
public final class RoomTest {
    private static final Check C = new Check("RoomTest");
    private static final int CALLS = 512;

    private interface Call {
        void on(DreamNets x);
    }

    public static void main(String[] args) {
        Call[] calls = {
            x -> x.plan(5, 4), x -> x.stop(5, 4, 3), x -> x.fine(4, 9, 1), x -> x.lasts(), x -> x.shoal(0, 1),
            x -> x.month(30, 50), x -> x.hope(4, 5, 0), x -> x.odds(8, 0), x -> x.when(0, 4, 99),
            x -> x.prove(3, 10), x -> x.judge(3), x -> x.pieces(4, 999), x -> x.act(0, 3, 9), x -> x.keep(),
            x -> x.again(), x -> x.night(), x -> x.bells(48), x -> x.feed(0x2020202020202020L, 8),
            x -> Check.tell(x, "boat 1 at 1 mesh 1;street 1 flying 40;"),
        };
        for (int i = 0; i < calls.length; i++) {
            long spent = spent(calls[i]);
            // some room for what the machine itself allocates meanwhile
            C.holds("call " + i + " spent " + spent + " bytes in all", spent < 20000);
        }
        // a sheet is a new row: two objects and 40 numbers
        C.holds("sheets", spent(x -> x.sheet(1, 3, 40)) < 600L * CALLS);
        C.holds("a new object", made() < 12000);
        C.end();
    }

    private static DreamNets full() {
        DreamNets x = new DreamNets();
        for (int boat = 0; boat < 6; boat++) {
            x.boat(boat, boat + 2, boat, 0);
        }
        for (int street = 0; street < 8; street++) {
            for (int sort = 0; sort < 5; sort++) {
                x.sleep(street, sort, 90);
            }
        }
        x.sheet(0, 2, 40);
        x.shelf(0, 0, 4);
        return x;
    }

    private static long allocated() {
        return ((com.sun.management.ThreadMXBean) ManagementFactory.getThreadMXBean())
                .getThreadAllocatedBytes(Thread.currentThread().getId());
    }

    private static long spent(Call call) {
        DreamNets x = full();
        call.on(x);
        allocated();
        long before = allocated();
        for (int i = 0; i < CALLS; i++) {
            call.on(x);
        }
        return allocated() - before;
    }

    private static long made() {
        new DreamNets();
        long before = allocated();
        DreamNets x = new DreamNets();
        return allocated() - before + x.keep();
    }
}
