import java.util.List;

/** Promises 1 to 7: a new object, add, addLine, empty, merge, pass and clock. */
public final class ItemsAndTicksTest {
    private static final Check CHECK = new Check("ItemsAndTicksTest");

    public static void main(String[] args) {
        aNewObject();
        theNumberOfLeastHashes();
        add();
        addRefused();
        addLine();
        addLineAtItsEnds();
        addLineRefused();
        empty();
        merge();
        mergeIntoItself();
        mergeRefused();
        pass();
        passRefused();
        clock();
        CHECK.end();
    }

    private static void aNewObject() {
        DistinctDale x = new DistinctDale(7);
        CHECK.due("1: clock()", x.clock(), 0);
        for (int basket = 0; basket < 6; basket++) {
            String of = "(" + basket + ") of a new object";
            CHECK.due("1: plain" + of, x.plain(basket), 0);
            CHECK.due("1: kept" + of, x.kept(basket), 0);
            CHECK.due("1: byLeast" + of, x.byLeast(basket), 0);
            CHECK.due("1: byRegisters" + of, x.byRegisters(basket), 0);
            CHECK.due("1: recent" + of, x.recent(basket, 100000), 0);
            CHECK.due("1: level" + of, x.level(basket), 0);
            CHECK.due("1: sampled" + of, x.sampled(basket), 0);
            CHECK.due("1: bySample" + of, x.bySample(basket), 0);
            CHECK.due("1: dateOf" + of, x.dateOf(basket, 0), DistinctDale.NONE);
        }
    }

    private static void theNumberOfLeastHashes() {
        int[][] told = {
            {2, 2}, {3, 3}, {31, 31}, {32, 32}, {33, 32}, {1, 2}, {0, 2}, {-1, 2},
            {1000000, 32}, {Integer.MAX_VALUE, 32}, {Integer.MIN_VALUE, 2}
        };
        for (int[] pair : told) {
            DistinctDale x = new DistinctDale(pair[0]);
            x.addLine(0, 0, 1, 60);
            CHECK.due("1: most() for k " + pair[0], x.most(), pair[1]);
            CHECK.due("1: kept(0) for k " + pair[0], x.kept(0), pair[1]);
        }
    }

    private static void add() {
        DistinctDale x = new DistinctDale(4);
        CHECK.due("2: a first item", x.add(0, 500), true);
        CHECK.due("2: an item below it", x.add(0, 0), true);
        CHECK.due("2: an item above it", x.add(0, 99999), true);
        CHECK.due("2: an item between them", x.add(0, 501), true);
        CHECK.due("2: the same item in the last basket", x.add(5, 500), true);
        x.pass(3);
        CHECK.due("2: an item that it has", x.add(0, 500), false);
        CHECK.due("2: plain(0)", x.plain(0), 4);
        CHECK.due("2: the date of the item that came again", x.dateOf(0, 500), 3);
        CHECK.due("2: its date in the other basket", x.dateOf(5, 500), 0);
        CHECK.due("2: the date of the item beside it", x.dateOf(0, 501), 0);
        CHECK.due("2: the sample", Check.sampleOf(x, 0), List.of(0, 500, 501, 99999));
    }

    private static void addRefused() {
        DistinctDale x = new DistinctDale(4);
        x.addLine(0, 3, 7, 20);
        CHECK.outOfBounds("2: add(-1, 1)", x, () -> x.add(-1, 1) ? 1 : 0);
        CHECK.outOfBounds("2: add(6, 1)", x, () -> x.add(6, 1) ? 1 : 0);
        CHECK.illegal("2: add(0, -1)", x, () -> x.add(0, -1) ? 1 : 0);
        CHECK.illegal("2: add(0, 100000)", x, () -> x.add(0, 100000) ? 1 : 0);
        CHECK.illegal("2: add(0, least int)", x, () -> x.add(0, Integer.MIN_VALUE) ? 1 : 0);
        CHECK.outOfBounds("2: add(6, -1)", x, () -> x.add(6, -1) ? 1 : 0);
        CHECK.due("2: plain(0) behind them", x.plain(0), 20);
    }

    private static void addLine() {
        DistinctDale x = new DistinctDale(4);
        CHECK.due("3: a line", x.addLine(1, 10, 5, 4), 4);
        CHECK.due("3: the sample", Check.sampleOf(x, 1), List.of(10, 15, 20, 25));
        x.pass(2);
        CHECK.due("3: a line that has two of it", x.addLine(1, 5, 15, 3), 2);
        CHECK.due("3: the sample then", Check.sampleOf(x, 1), List.of(5, 10, 15, 20, 25, 35));
        CHECK.due("3: an item between keeps its date", x.dateOf(1, 10), 0);
        CHECK.due("3: an item that came again", x.dateOf(1, 20), 2);
        CHECK.due("3: a new item's date", x.dateOf(1, 35), 2);
        CHECK.due("3: the same line again", x.addLine(1, 5, 15, 3), 0);
        CHECK.due("3: plain(1)", x.plain(1), 6);
        CHECK.due("3: plain(0)", x.plain(0), 0);
    }

    private static void addLineAtItsEnds() {
        DistinctDale x = new DistinctDale(4);
        CHECK.due("3: addLine(0, 0, 1, 1)", x.addLine(0, 0, 1, 1), 1);
        CHECK.due("3: addLine(0, 99999, 1, 1)", x.addLine(0, 99999, 1, 1), 1);
        CHECK.due("3: addLine(0, 99999, 999, 1)", x.addLine(0, 99999, 999, 1), 0);
        CHECK.due("3: addLine(0, 41058, 999, 60)", x.addLine(0, 41058, 999, 60), 59);
        CHECK.due("3: addLine(0, 99940, 1, 60)", x.addLine(0, 99940, 1, 60), 59);
        CHECK.due("3: plain(0)", x.plain(0), 120);
        int fresh = 0;
        for (int line = 0; line < 200; line++) {
            fresh += x.addLine(3, 60 * line, 1, 60);
        }
        CHECK.due("3: 200 lines behind one another", fresh, 12000);
        CHECK.due("3: a line across all of them", x.addLine(3, 100, 203, 60), 1);
        CHECK.due("3: plain(3)", x.plain(3), 12001);
        x.pass(9);
        CHECK.due("3: a line at the end of them", x.addLine(3, 11990, 1, 30), 20);
        CHECK.due("3: the date of an old one of many", x.dateOf(3, 11989), 0);
        CHECK.due("3: the date of one that came again", x.dateOf(3, 11999), 9);
        CHECK.due("3: the date of the new one behind many", x.dateOf(3, 12019), 9);
    }

    private static void addLineRefused() {
        DistinctDale x = new DistinctDale(4);
        x.addLine(0, 3, 7, 20);
        CHECK.outOfBounds("3: basket -1", x, () -> x.addLine(-1, 1, 1, 1));
        CHECK.outOfBounds("3: basket 6", x, () -> x.addLine(6, 1, 1, 1));
        CHECK.outOfBounds("3: basket 6 and all else wrong", x, () -> x.addLine(6, -1, 0, 61));
        int[][] wrong = {
            {-1, 1, 1}, {100000, 1, 1}, {1, 0, 1}, {1, 1000, 1}, {1, -1, 1}, {1, 1, 0}, {1, 1, 61}, {1, 1, -1},
            {-1, 1, 2}, {-998, 999, 60}, {99999, 1, 2}, {41059, 999, 60}, {99941, 1, 60}, {Integer.MAX_VALUE, 999, 60},
            {1, Integer.MAX_VALUE, 2}, {1, 2, Integer.MAX_VALUE}, {5, Integer.MIN_VALUE, 3}
        };
        for (int[] line : wrong) {
            String call = "3: addLine(0, " + line[0] + ", " + line[1] + ", " + line[2] + ")";
            CHECK.illegal(call, x, () -> x.addLine(0, line[0], line[1], line[2]));
        }
        CHECK.due("3: plain(0) behind them", x.plain(0), 20);
        CHECK.due("3: the first item of a refused line", x.dateOf(0, 99999), DistinctDale.NONE);
    }

    private static void empty() {
        DistinctDale x = new DistinctDale(4);
        x.addLine(0, 3, 7, 20);
        x.addLine(1, 3, 7, 5);
        CHECK.due("4: empty(0)", x.empty(0), 20);
        CHECK.due("4: plain(0)", x.plain(0), 0);
        CHECK.due("4: dateOf(0, 3)", x.dateOf(0, 3), DistinctDale.NONE);
        CHECK.due("4: byRegisters(0)", x.byRegisters(0), 0);
        CHECK.due("4: kept(0)", x.kept(0), 0);
        CHECK.due("4: level(0)", x.level(0), 0);
        CHECK.due("4: the other basket", x.plain(1), 5);
        CHECK.due("4: empty(0) again", x.empty(0), 0);
        CHECK.due("4: an item that it had is new again", x.add(0, 3), true);
        CHECK.due("4: empty(5)", x.empty(5), 0);
        CHECK.outOfBounds("4: empty(-1)", x, () -> x.empty(-1));
        CHECK.outOfBounds("4: empty(6)", x, () -> x.empty(6));
    }

    private static void merge() {
        DistinctDale x = new DistinctDale(4);
        Check.addAll(x, 0, 1, 5, 9);
        Check.addAll(x, 1, 9);
        x.pass(4);
        Check.addAll(x, 0, 7);
        Check.addAll(x, 1, 0, 5, 30);
        CHECK.due("5: merge(0, 1)", x.merge(0, 1), 2);
        CHECK.due("5: the second one", Check.sampleOf(x, 1), List.of(0, 1, 5, 7, 9, 30));
        CHECK.due("5: the first one stays", Check.sampleOf(x, 0), List.of(1, 5, 7, 9));
        CHECK.due("5: a date of the first one's item stays there", x.dateOf(0, 5), 0);
        CHECK.due("5: an item that both had, later in the second", x.dateOf(1, 5), 4);
        CHECK.due("5: an item that both had at one tick", x.dateOf(1, 9), 0);
        CHECK.due("5: a new old item keeps its date", x.dateOf(1, 1), 0);
        CHECK.due("5: a new late item keeps its date", x.dateOf(1, 7), 4);
        CHECK.due("5: an item of the second alone", x.dateOf(1, 30), 4);
        CHECK.due("5: merge(1, 0)", x.merge(1, 0), 2);
        CHECK.due("5: an item that both had, later in the first", x.dateOf(0, 5), 4);
        CHECK.due("5: merge(1, 0) again", x.merge(1, 0), 0);
        CHECK.due("5: an empty one into it", x.merge(4, 0), 0);
        CHECK.due("5: it into an empty one", x.merge(0, 4), 6);
        x.pass(1);
        x.add(4, 1);
        CHECK.due("5: the baskets go apart again", x.dateOf(0, 1), 0);
    }

    private static void mergeIntoItself() {
        DistinctDale x = new DistinctDale(4);
        Check.addAll(x, 2, 1, 5, 9);
        x.pass(4);
        Check.addAll(x, 2, 5);
        CHECK.due("5: merge(2, 2)", x.merge(2, 2), 0);
        CHECK.due("5: its items", Check.sampleOf(x, 2), List.of(1, 5, 9));
        CHECK.due("5: an old date", x.dateOf(2, 1), 0);
        CHECK.due("5: a later date", x.dateOf(2, 5), 4);
        CHECK.due("5: merge(3, 3), which is empty", x.merge(3, 3), 0);
    }

    private static void mergeRefused() {
        DistinctDale x = new DistinctDale(4);
        x.addLine(0, 3, 7, 20);
        CHECK.outOfBounds("5: merge(0, 6)", x, () -> x.merge(0, 6));
        CHECK.outOfBounds("5: merge(0, -1)", x, () -> x.merge(0, -1));
        CHECK.outOfBounds("5: merge(6, 1)", x, () -> x.merge(6, 1));
        CHECK.outOfBounds("5: merge(-1, 1)", x, () -> x.merge(-1, 1));
        CHECK.outOfBounds("5: merge(9, 9)", x, () -> x.merge(9, 9));
    }

    private static void pass() {
        DistinctDale x = new DistinctDale(4);
        CHECK.due("6: pass(1)", x.pass(1), 1);
        CHECK.due("6: pass(1000)", x.pass(1000), 1001);
        CHECK.due("6: pass(37)", x.pass(37), 1038);
        x.add(0, 8);
        CHECK.due("6: the date of an item that comes then", x.dateOf(0, 8), 1038);
    }

    private static void passRefused() {
        DistinctDale x = new DistinctDale(4);
        x.pass(5);
        for (int ticks : new int[] {0, -1, 1001, Integer.MIN_VALUE, Integer.MAX_VALUE}) {
            CHECK.illegal("6: pass(" + ticks + ")", x, () -> x.pass(ticks));
        }
        CHECK.due("6: clock() behind them", x.clock(), 5);
    }

    private static void clock() {
        DistinctDale x = new DistinctDale(4);
        CHECK.due("7: clock()", x.clock(), 0);
        x.pass(12);
        CHECK.due("7: clock() behind pass(12)", x.clock(), 12);
        x.add(0, 1);
        x.empty(0);
        CHECK.due("7: clock() behind other calls", x.clock(), 12);
    }
}
