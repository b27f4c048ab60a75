import java.util.List;

/** Promises 22 to 25: level, sampled, sampledAt and bySample. */
public final class ThinnedSampleTest {
    private static final Check CHECK = new Check("ThinnedSampleTest");

    // All ten items whose hash 2 divides just 12 times, and all fourteen that have more twos.
    private static final int[] TWELVE_TWOS = {
        277, 2454, 5475, 12793, 23593, 38902, 40551, 41059, 70844, 82165
    };
    private static final int[] MORE_TWOS = {
        5437, 17755, 31093, 37895, 47650, 90405, 36366, 72345, 93741, 40521, 51877, 89330, 91974, 60240
    };

    public static void main(String[] args) {
        upToSixteenItems();
        lines();
        theHighestLevels();
        sampledAt();
        theLevelFallsAgain();
        refused();
        CHECK.end();
    }

    /** The items 0 to 16 have odd hashes, so that the seventeenth leaves none of them. */
    private static void upToSixteenItems() {
        DistinctDale x = new DistinctDale(2);
        same(x, 0, "an empty basket", 0, List.of());
        x.addLine(0, 0, 1, 15);
        same(x, 0, "15 items", 0, List.of(0, 1, 2, 3, 4, 5, 6, 7, 8, 9, 10, 11, 12, 13, 14));
        x.add(0, 15);
        same(x, 0, "16 items", 0, List.of(0, 1, 2, 3, 4, 5, 6, 7, 8, 9, 10, 11, 12, 13, 14, 15));
        x.add(0, 16);
        same(x, 0, "17 items", 1, List.of());
        same(x, 1, "another basket", 0, List.of());
    }

    private static void lines() {
        DistinctDale x = new DistinctDale(2);
        x.addLine(0, 0, 17, 60);
        same(x, 0, "a line by 17", 2,
            List.of(272, 289, 340, 357, 408, 425, 578, 595, 646, 663, 816, 833, 884, 901, 1003));
        x.addLine(1, 500, 999, 60);
        same(x, 1, "a line by 999", 2,
            List.of(5495, 8492, 12488, 17483, 21479, 36464, 37463, 39461, 47453, 49451, 56444, 58442));
        x.addLine(2, 0, 999, 60);
        same(x, 2, "another line by 999", 3, List.of(3996, 6993, 9990, 12987, 22977, 23976, 53946, 58941));
    }

    private static void theHighestLevels() {
        DistinctDale x = new DistinctDale(2);
        List<Integer> rising = List.of(
            5437, 17755, 31093, 36366, 37895, 40521, 47650, 51877, 60240, 72345, 89330, 90405, 91974, 93741);
        Check.addAll(x, 4, MORE_TWOS);
        same(x, 4, "14 items of many twos", 0, rising);
        Check.addAll(x, 4, TWELVE_TWOS);
        same(x, 4, "24 items of many twos", 13, rising);
        x.addLine(4, 0, 1, 60);
        same(x, 4, "60 more items", 13, rising);
        Check.addAll(x, 3, TWELVE_TWOS);
        Check.addAll(x, 3, 5437, 60240, 36366, 91974, 93741, 31093);
        same(x, 3, "16 items of many twos", 0, List.of(277, 2454, 5437, 5475, 12793, 23593, 31093, 36366,
            38902, 40551, 41059, 60240, 70844, 82165, 91974, 93741));
        x.add(3, 0);
        same(x, 3, "and one that 2 does not divide", 1, List.of(277, 2454, 5437, 5475, 12793, 23593, 31093, 36366,
            38902, 40551, 41059, 60240, 70844, 82165, 91974, 93741));
    }

    private static void sampledAt() {
        DistinctDale x = new DistinctDale(2);
        Check.addAll(x, 2, 70, 7, 99999, 0);
        CHECK.due("24: sampledAt(2, 0)", x.sampledAt(2, 0), 0);
        CHECK.due("24: sampledAt(2, 1)", x.sampledAt(2, 1), 7);
        CHECK.due("24: sampledAt(2, 2)", x.sampledAt(2, 2), 70);
        CHECK.due("24: sampledAt(2, 3)", x.sampledAt(2, 3), 99999);
        CHECK.outOfBounds("24: sampledAt(2, 4)", x, () -> x.sampledAt(2, 4));
        CHECK.outOfBounds("24: sampledAt(2, -1)", x, () -> x.sampledAt(2, -1));
        CHECK.outOfBounds("24: sampledAt(2, least int)", x, () -> x.sampledAt(2, Integer.MIN_VALUE));
        CHECK.outOfBounds("24: sampledAt(3, 0), which is empty", x, () -> x.sampledAt(3, 0));
        x.addLine(2, 0, 1, 17);
        CHECK.due("23: sampled(2)", x.sampled(2), 0);
        CHECK.outOfBounds("24: sampledAt(2, 0) of an empty sample", x, () -> x.sampledAt(2, 0));
    }

    private static void theLevelFallsAgain() {
        DistinctDale x = new DistinctDale(2);
        x.addLine(0, 0, 999, 60);
        CHECK.due("22: level(0)", x.level(0), 3);
        x.empty(0);
        x.add(0, 999);
        same(x, 0, "emptied", 0, List.of(999));
        x.addLine(1, 0, 999, 60);
        x.merge(1, 0);
        same(x, 0, "merged", 3, List.of(3996, 6993, 9990, 12987, 22977, 23976, 53946, 58941));
    }

    private static void refused() {
        DistinctDale x = new DistinctDale(2);
        x.addLine(0, 0, 999, 60);
        for (int basket : new int[] {-1, 6, Integer.MIN_VALUE, Integer.MAX_VALUE}) {
            CHECK.outOfBounds("22: level(" + basket + ")", x, () -> x.level(basket));
            CHECK.outOfBounds("23: sampled(" + basket + ")", x, () -> x.sampled(basket));
            CHECK.outOfBounds("24: sampledAt(" + basket + ", 0)", x, () -> x.sampledAt(basket, 0));
            CHECK.outOfBounds("25: bySample(" + basket + ")", x, () -> x.bySample(basket));
        }
    }

    private static void same(DistinctDale x, int basket, String what, int level, List<Integer> items) {
        CHECK.due("22: level, " + what, x.level(basket), level);
        CHECK.due("23: sampled, " + what, x.sampled(basket), items.size());
        CHECK.due("24: sampledAt, " + what, Check.sampleOf(x, basket), items);
        CHECK.due("25: bySample, " + what, x.bySample(basket), (long) items.size() << level);
    }
}
