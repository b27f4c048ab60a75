import java.lang.management.ManagementFactory;

/**
 * All calls of one run share a room of 600,000 objects and 7.3 million fields and elements: the
 * dearest run stays far below it, measured in bytes, and asking makes nothing.
 */
public final class RoomTest {
    private static final Check CHECK = new Check("RoomTest");
    private static final long DEAREST_RUN = 8_000_000;
    private static final long NEXT_TO_NOTHING = 2_000;

    public static void main(String[] args) {
        com.sun.management.ThreadMXBean threads =
            (com.sun.management.ThreadMXBean) ManagementFactory.getThreadMXBean();
        askAll(fullBaskets());

        long atFirst = threads.getCurrentThreadAllocatedBytes();
        DistinctDale x = fullBaskets();
        long whenFull = threads.getCurrentThreadAllocatedBytes();
        CHECK.due("30360 items in each basket take " + (whenFull - atFirst) + " bytes, too many",
            whenFull - atFirst > DEAREST_RUN, false);
        System.out.println("RoomTest: the dearest run takes " + (whenFull - atFirst) + " bytes");
        CHECK.due("the items of the last basket", x.plain(5), 30360);

        DistinctDale y = halfFullBasket();
        long beforeAsking = threads.getCurrentThreadAllocatedBytes();
        askAll(y);
        long behindAsking = threads.getCurrentThreadAllocatedBytes();
        CHECK.due("asking takes " + (behindAsking - beforeAsking) + " bytes, too many",
            behindAsking - beforeAsking > NEXT_TO_NOTHING, false);
        CHECK.end();
    }

    /** The most items that 512 calls can bring into all baskets. */
    private static DistinctDale fullBaskets() {
        DistinctDale x = new DistinctDale(32);
        for (int line = 0; line < 506; line++) {
            x.addLine(0, 60 * line, 1, 60);
        }
        for (int basket = 1; basket < 6; basket++) {
            x.merge(0, basket);
        }
        return x;
    }

    private static DistinctDale halfFullBasket() {
        DistinctDale x = new DistinctDale(32);
        for (int line = 0; line < 256; line++) {
            x.addLine(0, 60 * line, 1, 60);
        }
        return x;
    }

    private static long askAll(DistinctDale x) {
        long all = x.clock() + x.most() + x.hash(99999);
        for (int turn = 0; turn < 10; turn++) {
            all += x.plain(0) + x.plainCommon(0, 0) + x.dateOf(0, 7) + x.kept(0) + x.keptAt(0, 1) + x.byLeast(0);
            all += x.together(0, 0) + x.common(0, 1) + x.without(0, 1) + x.register(0, 3) + x.byRegisters(0);
            all += x.recent(0, 5) + x.level(0) + x.sampled(0) + x.sampledAt(0, 1) + x.bySample(0);
        }
        return all;
    }
}
