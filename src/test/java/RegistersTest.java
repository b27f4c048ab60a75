import java.util.List;

/** Promises 19 to 21: register, byRegisters and recent. */
public final class RegistersTest {
    private static final Check CHECK = new Check("RegistersTest");

    // For each register, in order, the least item of the greatest rank that any item has there.
    private static final int[] HIGHEST = {
        60240, 50186, 13819, 46841, 87886, 54194, 41977, 54826,
        5651, 9817, 72759, 64273, 3137, 54122, 40210, 4983
    };
    // For each register, in order, the least item of rank 1.
    private static final int[] LOWEST = {
        261, 4, 266, 6, 260, 13, 262, 2, 269, 1, 258, 30, 257, 8, 255, 3
    };

    public static void main(String[] args) {
        register();
        registerRefused();
        byRegistersWithLowRanks();
        byRegistersWithHighRanks();
        byRegistersAtTheTablesEnd();
        byRegistersRefused();
        recent();
        recentFollowsTheLastDate();
        recentRefused();
        CHECK.end();
    }

    private static void register() {
        DistinctDale x = new DistinctDale(2);
        CHECK.due("19: an empty basket", WholeState.registersOf(x, 0), List.of(0, 0, 0, 0, 0, 0, 0, 0, 0, 0, 0, 0, 0, 0, 0, 0));
        x.addLine(0, 0, 1, 60);
        CHECK.due("19: a line", WholeState.registersOf(x, 0), List.of(0, 3, 0, 4, 0, 3, 0, 3, 0, 3, 0, 6, 0, 6, 0, 3));
        Check.addAll(x, 1, HIGHEST);
        List<Integer> highest = List.of(13, 14, 13, 16, 17, 14, 15, 14, 16, 11, 12, 13, 12, 14, 14, 13);
        CHECK.due("19: high ranks", WholeState.registersOf(x, 1), highest);
        Check.addAll(x, 1, LOWEST);
        CHECK.due("19: low ranks change no register", WholeState.registersOf(x, 1), highest);
        Check.addAll(x, 2, LOWEST);
        CHECK.due("19: low ranks", WholeState.registersOf(x, 2), List.of(1, 1, 1, 1, 1, 1, 1, 1, 1, 1, 1, 1, 1, 1, 1, 1));
    }

    private static void registerRefused() {
        DistinctDale x = new DistinctDale(2);
        x.addLine(0, 0, 1, 60);
        CHECK.outOfBounds("19: register(0, -1)", x, () -> x.register(0, -1));
        CHECK.outOfBounds("19: register(0, 16)", x, () -> x.register(0, 16));
        CHECK.outOfBounds("19: register(-1, 0)", x, () -> x.register(-1, 0));
        CHECK.outOfBounds("19: register(6, 0)", x, () -> x.register(6, 0));
        CHECK.outOfBounds("19: register(0, least int)", x, () -> x.register(0, Integer.MIN_VALUE));
    }

    /** Here the estimate is at most 40000 throughout, so that the table counts until no register is 0. */
    private static void byRegistersWithLowRanks() {
        long[] due = {
            0, 1033, 2137, 3322, 4603, 5995, 7520, 9206, 11090, 13227, 15693, 18610, 22181, 26784, 33271, 44361, 21536
        };
        DistinctDale x = new DistinctDale(2);
        for (int many = 0; many < due.length; many++) {
            CHECK.due("20: " + many + " registers of rank 1", x.byRegisters(0), due[many]);
            if (many < LOWEST.length) {
                x.add(0, LOWEST[many]);
            }
        }
        CHECK.due("20: another basket", x.byRegisters(1), 0);
    }

    private static void byRegistersWithHighRanks() {
        long[] due = {
            0, 1033, 2137, 3322, 4603, 5995, 7520, 9206, 11090, 13227, 15693, 18610,
            43057, 57398, 86072, 171992, 93701795
        };
        DistinctDale x = new DistinctDale(2);
        for (int many = 0; many < due.length; many++) {
            CHECK.due("20: " + many + " registers of high rank", x.byRegisters(5), due[many]);
            if (many < HIGHEST.length) {
                x.add(5, HIGHEST[many]);
            }
        }
    }

    /** Baskets whose estimates are 39999, 40000 and 40001, with 2, 1 and 3 registers that are 0. */
    private static void byRegistersAtTheTablesEnd() {
        DistinctDale x = new DistinctDale(2);
        Check.addAll(x, 0, 2, 13, 17, 19, 261, 262, 352, 899, 1608, 2224, 3137, 33639, 50047, 93353);
        Check.addAll(x, 1, 1, 2, 13, 78, 257, 261, 262, 329, 338, 492, 899, 2224, 4480, 10182, 43231);
        Check.addAll(x, 2, 2, 12, 30, 96, 303, 694, 6900, 13819, 46841, 50186, 51959, 56820, 69910);
        CHECK.due("20: 39999", x.byRegisters(0), 33271);
        CHECK.due("20: 40000", x.byRegisters(1), 44361);
        CHECK.due("20: 40001", x.byRegisters(2), 40001);
        CHECK.due("21: 40000", x.recent(1, 1), 44361);
        CHECK.due("21: 40001", x.recent(2, 1), 40001);
    }

    private static void byRegistersRefused() {
        DistinctDale x = new DistinctDale(2);
        x.addLine(0, 0, 1, 60);
        CHECK.outOfBounds("20: byRegisters(-1)", x, () -> x.byRegisters(-1));
        CHECK.outOfBounds("20: byRegisters(6)", x, () -> x.byRegisters(6));
    }

    private static void recent() {
        DistinctDale x = new DistinctDale(2);
        CHECK.due("21: an empty basket", x.recent(0, 1), 0);
        Check.addAll(x, 0, LOWEST[0], LOWEST[1], LOWEST[2]);
        CHECK.due("21: at tick 0, one tick", x.recent(0, 1), 3322);
        x.pass(3);
        Check.addAll(x, 0, LOWEST[3]);
        x.pass(2);
        Check.addAll(x, 0, LOWEST[4], HIGHEST[0]);
        CHECK.due("21: one tick", x.recent(0, 1), 2137);
        CHECK.due("21: two ticks", x.recent(0, 2), 2137);
        CHECK.due("21: three ticks", x.recent(0, 3), 3322);
        CHECK.due("21: five ticks", x.recent(0, 5), 3322);
        CHECK.due("21: six ticks", x.recent(0, 6), 5995);
        CHECK.due("21: 100000 ticks", x.recent(0, 100000), 5995);
        x.pass(1);
        CHECK.due("21: when all is older", x.recent(0, 1), 0);
        CHECK.due("21: the registers themselves forget nothing", x.byRegisters(0), 5995);
        CHECK.due("21: another basket", x.recent(1, 100000), 0);
    }

    private static void recentFollowsTheLastDate() {
        DistinctDale x = new DistinctDale(2);
        Check.addAll(x, 0, LOWEST);
        for (int i = 0; i < 150; i++) {
            x.pass(1000);
        }
        CHECK.due("21: all is 150000 ticks old", x.recent(0, 100000), 0);
        x.add(0, LOWEST[7]);
        CHECK.due("21: one item came again", x.recent(0, 1), 1033);
        x.merge(0, 1);
        CHECK.due("21: merged", x.recent(1, 100000), 1033);
        x.empty(0);
        CHECK.due("21: emptied", x.recent(0, 100000), 0);
    }

    private static void recentRefused() {
        DistinctDale x = new DistinctDale(2);
        x.addLine(0, 0, 1, 60);
        for (int ticks : new int[] {0, -1, 100001, Integer.MIN_VALUE, Integer.MAX_VALUE}) {
            CHECK.illegal("21: recent(0, " + ticks + ")", x, () -> x.recent(0, ticks));
        }
        CHECK.outOfBounds("21: recent(-1, 1)", x, () -> x.recent(-1, 1));
        CHECK.outOfBounds("21: recent(6, 1)", x, () -> x.recent(6, 1));
        CHECK.outOfBounds("21: recent(6, 0)", x, () -> x.recent(6, 0));
    }
}
