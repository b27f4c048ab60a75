import java.util.List;

/** The boundary cases of promises 1 to 7, each sentence with a test of its own. */
public final class ItemEdgesTest {
    private static final Check CHECK = new Check("ItemEdgesTest");

    public static void main(String[] args) {
        newObject();
        add();
        addLine();
        addLineMixed();
        empty();
        merge();
        mergeDates();
        mergeOrders();
        ticks();
        fullRuns();
        CHECK.promises(1, 7);
        CHECK.end();
    }

    private static void newObject() {
        CHECK.holds(1, "Empty baskets at tick 0", () -> {
            StringBuilder due = new StringBuilder("clock 0, k 3");
            for (int basket = 0; basket < 6; basket++) {
                due.append("; basket ").append(basket).append(": 0 items, sample [] of dates [] at level 0 tells 0, ")
                    .append("keeps [] tells 0, registers [0, 0, 0, 0, 0, 0, 0, 0, 0, 0, 0, 0, 0, 0, 0, 0] tell 0 ")
                    .append("and of late 0 0, with the next 0 0 0 0 0");
            }
            CHECK.text("a new object", WholeState.of(new DistinctDale(3)), due.toString());
        });
        CHECK.holds(1, "less than 2 counts as 2", () -> {
            for (int k : new int[] {1, 0, -1, -2, -33, Integer.MIN_VALUE}) {
                likeK(k, 2);
            }
        });
        CHECK.holds(1, "k: 2 is the least that counts as itself", () -> likeK(2, 2));
        CHECK.holds(1, "k: 3 is just above the least", () -> likeK(3, 3));
        CHECK.holds(1, "k: 31 is just below the greatest", () -> likeK(31, 31));
        CHECK.holds(1, "k: 32 is the greatest that counts as itself", () -> likeK(32, 32));
        CHECK.holds(1, "more than 32 as 32", () -> {
            for (int k : new int[] {33, 34, 64, 1000, Integer.MAX_VALUE}) {
                likeK(k, 32);
            }
        });
    }

    /** The hashes of 0 to 40 rise, so that the k-th of them is that of the item k - 1. */
    private static void likeK(int told, int k) {
        DistinctDale x = new DistinctDale(told);
        CHECK.due("most() for " + told, x.most(), k);
        x.addLine(0, 0, 1, k - 1);
        CHECK.due("kept of k - 1 items for " + told, x.kept(0), k - 1);
        CHECK.due("byLeast of k - 1 items for " + told, x.byLeast(0), k - 1);
        x.addLine(0, 0, 1, k + 1);
        CHECK.due("kept of k + 1 items for " + told, x.kept(0), k);
        CHECK.due("the last that is kept for " + told, x.keptAt(0, k - 1), Items.hash(k - 1));
        CHECK.due("byLeast of k + 1 items for " + told, x.byLeast(0), (k - 1) * 16777213L / Items.hash(k - 1));
    }

    private static void add() {
        CHECK.holds(2, "basket: 0 to 5", () -> {
            for (int basket = 0; basket < 6; basket++) {
                DistinctDale x = new DistinctDale(4);
                CHECK.due("add(" + basket + ", 7)", x.add(basket, 7), true);
                for (int other = 0; other < 6; other++) {
                    CHECK.due("plain(" + other + ") then", x.plain(other), other == basket ? 1 : 0);
                }
            }
        });
        CHECK.holds(2, "item: 0 is the least", () -> addAlone(0, 1));
        CHECK.holds(2, "item: 99999 is the greatest", () -> addAlone(99999, 99998));
        CHECK.holds(2, "whether the basket did not have it", () -> {
            DistinctDale x = new DistinctDale(4);
            CHECK.due("to an empty one", x.add(0, 50), true);
            CHECK.due("again at the same tick", x.add(0, 50), false);
            CHECK.due("the item just below", x.add(0, 49), true);
            CHECK.due("the item just above", x.add(0, 51), true);
            CHECK.due("another basket", x.add(1, 50), true);
            x.pass(1);
            CHECK.due("again at a later tick", x.add(0, 50), false);
            x.empty(0);
            CHECK.due("when the basket has been emptied", x.add(0, 50), true);
            CHECK.due("the other basket, which has not", x.add(1, 50), false);
        });
        CHECK.holds(2, "its date is the present tick then", () -> {
            DistinctDale x = new DistinctDale(4);
            x.add(0, 50);
            x.add(1, 50);
            CHECK.due("at tick 0", x.dateOf(0, 50), 0);
            x.pass(1);
            CHECK.due("when a tick has passed", x.dateOf(0, 50), 0);
            x.add(0, 50);
            CHECK.due("when it came again", x.dateOf(0, 50), 1);
            CHECK.due("in the other basket", x.dateOf(1, 50), 0);
            x.pass(1000);
            x.add(0, 49);
            CHECK.due("of the item beside it", x.dateOf(0, 49), 1001);
            CHECK.due("of itself then", x.dateOf(0, 50), 1);
        });
    }

    private static void addAlone(int item, int neighbour) {
        DistinctDale x = new DistinctDale(4);
        CHECK.due("add(3, " + item + ")", x.add(3, item), true);
        CHECK.due("its date", x.dateOf(3, item), 0);
        CHECK.due("the date of " + neighbour, x.dateOf(3, neighbour), DistinctDale.NONE);
        CHECK.due("the sample", Check.sampleOf(x, 3), List.of(item));
        CHECK.due("the same again", x.add(3, item), false);
        CHECK.due("plain(3)", x.plain(3), 1);
    }

    private static void addLine() {
        CHECK.holds(3, "basket: 0 to 5", () -> {
            for (int basket = 0; basket < 6; basket++) {
                DistinctDale x = new DistinctDale(4);
                CHECK.due("addLine(" + basket + ", 7, 2, 3)", x.addLine(basket, 7, 2, 3), 3);
                for (int other = 0; other < 6; other++) {
                    CHECK.due("plain(" + other + ") then", x.plain(other), other == basket ? 3 : 0);
                }
            }
        });
        CHECK.holds(3, "first: 0 is the least", () -> line(0, 1, 2));
        CHECK.holds(3, "first: 99999 is the greatest", () -> line(99999, 1, 1));
        CHECK.holds(3, "first: 99998 has one item behind it", () -> line(99998, 1, 2));
        CHECK.holds(3, "step: 1 is the least", () -> line(500, 1, 60));
        CHECK.holds(3, "step: 2 is just above the least", () -> line(500, 2, 60));
        CHECK.holds(3, "step: 998 is just below the greatest", () -> line(500, 998, 60));
        CHECK.holds(3, "step: 999 is the greatest", () -> line(500, 999, 60));
        CHECK.holds(3, "many: 1 is the least", () -> line(77, 5, 1));
        CHECK.holds(3, "many: 2 is just above the least", () -> line(77, 5, 2));
        CHECK.holds(3, "many: 59 is just below the greatest", () -> line(77, 5, 59));
        CHECK.holds(3, "many: 60 is the greatest", () -> line(77, 5, 60));
        CHECK.holds(3, "the last item is not above 99999, by step 1", () -> line(99940, 1, 60));
        CHECK.holds(3, "the last item is not above 99999, by step 999", () -> line(41058, 999, 60));
        CHECK.holds(3, "the last item is not above 99999, of two", () -> line(99000, 999, 2));
        CHECK.holds(3, "the last item of one is the first", () -> line(99999, 999, 1));
        CHECK.holds(3, "the longest line from 0", () -> line(0, 999, 60));
    }

    /** The line must bring just its own items, all of the present tick. */
    private static void line(int first, int step, int many) {
        DistinctDale x = new DistinctDale(4);
        x.pass(6);
        CHECK.due("the line", x.addLine(2, first, step, many), many);
        CHECK.due("plain(2)", x.plain(2), many);
        for (int i = 0; i < many; i++) {
            CHECK.due("the date of item " + i + " of it", x.dateOf(2, first + i * step), 6);
        }
        CHECK.due("the line again", x.addLine(2, first, step, many), 0);
        CHECK.due("plain(2) then", x.plain(2), many);
        int behind = first + many * step;
        if (behind < 100000) {
            CHECK.due("the item that would be the next", x.dateOf(2, behind), DistinctDale.NONE);
        }
        if (first > 0) {
            CHECK.due("the item ahead of it", x.dateOf(2, first - 1), DistinctDale.NONE);
        }
    }

    private static void addLineMixed() {
        CHECK.holds(3, "how many of them the basket did not have", () -> {
            DistinctDale x = new DistinctDale(4);
            x.addLine(0, 100, 10, 6);
            CHECK.due("none of them new", x.addLine(0, 110, 20, 3), 0);
            CHECK.due("all new, below", x.addLine(0, 0, 10, 6), 6);
            CHECK.due("all new, above", x.addLine(0, 1000, 10, 6), 6);
            CHECK.due("all new, between", x.addLine(0, 101, 10, 5), 5);
            CHECK.due("the first had", x.addLine(0, 150, 13, 4), 3);
            CHECK.due("the last had", x.addLine(0, 70, 10, 4), 3);
            CHECK.due("plain(0)", x.plain(0), 29);
            x.empty(0);
            CHECK.due("all of an emptied one", x.addLine(0, 110, 20, 3), 3);
        });
        CHECK.holds(3, "as add() does", () -> {
            DistinctDale byLine = new DistinctDale(4);
            DistinctDale oneByOne = new DistinctDale(4);
            int[][] lines = {{40, 3, 5}, {0, 7, 4}, {43, 1, 7}, {99970, 29, 2}, {40, 3, 1}, {12345, 1, 1}};
            for (int[] line : lines) {
                long fresh = 0;
                for (int i = 0; i < line[2]; i++) {
                    fresh += oneByOne.add(4, line[0] + i * line[1]) ? 1 : 0;
                }
                CHECK.due("a line from " + line[0], byLine.addLine(4, line[0], line[1], line[2]), fresh);
                byLine.pass(2);
                oneByOne.pass(2);
            }
            CHECK.text("all that is asked then", WholeState.of(byLine), WholeState.of(oneByOne));
        });
        CHECK.holds(3, "come into a basket at the present tick, those that it has too", () -> {
            DistinctDale x = new DistinctDale(4);
            x.addLine(0, 10, 10, 5);
            x.pass(4);
            CHECK.due("the line", x.addLine(0, 20, 15, 3), 1);
            int[][] due = {{10, 0}, {20, 4}, {30, 0}, {35, 4}, {40, 0}, {50, 4}};
            for (int[] pair : due) {
                CHECK.due("the date of " + pair[0], x.dateOf(0, pair[0]), pair[1]);
            }
        });
    }

    private static void empty() {
        CHECK.holds(4, "basket: 0 to 5", () -> {
            DistinctDale x = new DistinctDale(4);
            for (int basket = 0; basket < 6; basket++) {
                x.addLine(basket, 0, 1, basket + 1);
            }
            for (int basket = 0; basket < 6; basket++) {
                CHECK.due("empty(" + basket + ")", x.empty(basket), basket + 1);
                for (int other = 0; other < 6; other++) {
                    CHECK.due("plain(" + other + ") then", x.plain(other), other <= basket ? 0 : other + 1);
                }
            }
        });
        CHECK.holds(4, "a basket without items had 0", () -> {
            DistinctDale x = new DistinctDale(4);
            CHECK.due("a new one", x.empty(0), 0);
            CHECK.due("again", x.empty(0), 0);
            x.add(0, 99999);
            CHECK.due("with one item", x.empty(0), 1);
            CHECK.due("again then", x.empty(0), 0);
        });
        CHECK.holds(4, "an emptied basket is as a new one", () -> {
            DistinctDale x = new DistinctDale(4);
            x.addLine(2, 0, 999, 60);
            x.addLine(2, 5, 7, 60);
            CHECK.due("empty(2)", x.empty(2), 120);
            CHECK.text("all that is asked then", WholeState.of(x), WholeState.of(new DistinctDale(4)));
        });
        CHECK.holds(4, "an emptied basket takes items as a new one", () -> {
            DistinctDale x = new DistinctDale(4);
            DistinctDale y = new DistinctDale(4);
            x.addLine(2, 0, 1, 60);
            x.pass(3);
            y.pass(3);
            x.empty(2);
            CHECK.due("a line", x.addLine(2, 3, 9, 12), y.addLine(2, 3, 9, 12));
            CHECK.text("all that is asked then", WholeState.of(x), WholeState.of(y));
        });
    }

    private static void merge() {
        CHECK.holds(5, "from: 0 to 5, to: 0 to 5", () -> {
            for (int from = 0; from < 6; from++) {
                for (int to = 0; to < 6; to++) {
                    DistinctDale x = new DistinctDale(4);
                    x.addLine(from, 99990, 3, 4);
                    String call = "merge(" + from + ", " + to + ")";
                    CHECK.due(call, x.merge(from, to), from == to ? 0 : 4);
                    for (int basket = 0; basket < 6; basket++) {
                        CHECK.due("plain(" + basket + ") behind " + call, x.plain(basket),
                            basket == from || basket == to ? 4 : 0);
                    }
                }
            }
        });
        CHECK.holds(5, "to may be the same: nothing is new, and nothing changes", () -> {
            DistinctDale x = mixed();
            for (int basket = 0; basket < 6; basket++) {
                CHECK.due("merge(" + basket + ", " + basket + ")", x.merge(basket, basket), 0);
            }
            CHECK.text("all that is asked then", WholeState.of(x), WholeState.of(mixed()));
        });
        CHECK.holds(5, "to may be the same, with many items", () -> {
            DistinctDale x = new DistinctDale(4);
            for (int line = 0; line < 5; line++) {
                x.addLine(3, 1000 * line, 3, 60);
                x.pass(1);
            }
            CHECK.due("merge(3, 3)", x.merge(3, 3), 0);
            CHECK.due("plain(3)", x.plain(3), 300);
            CHECK.due("the date of the first item", x.dateOf(3, 0), 0);
            CHECK.due("the date of the last item", x.dateOf(3, 4177), 4);
        });
        CHECK.holds(5, "a basket without items brings nothing", () -> {
            DistinctDale x = mixed();
            x.empty(3);
            DistinctDale y = mixed();
            y.empty(3);
            CHECK.due("merge(3, 0)", x.merge(3, 0), 0);
            CHECK.due("merge(3, 4), both without items", x.merge(3, 4), 0);
            CHECK.text("all that is asked then", WholeState.of(x), WholeState.of(y));
        });
        CHECK.holds(5, "all items are new in a basket without items", () -> {
            DistinctDale x = mixed();
            CHECK.due("merge(0, 4)", x.merge(0, 4), x.plain(0));
            CHECK.due("its items", Check.sampleOf(x, 4), Check.sampleOf(x, 0));
            for (int item : Check.sampleOf(x, 0)) {
                CHECK.due("the date of " + item, x.dateOf(4, item), x.dateOf(0, item));
            }
        });
    }

    /** Baskets 0, 1 and 3 have items of three ticks; the others have none. */
    private static DistinctDale mixed() {
        DistinctDale x = new DistinctDale(4);
        x.addLine(0, 0, 10, 8);
        x.addLine(1, 5, 5, 10);
        x.pass(1);
        x.addLine(0, 40, 10, 3);
        x.addLine(3, 99000, 111, 10);
        x.pass(2);
        x.add(1, 40);
        return x;
    }

    private static void mergeDates() {
        CHECK.holds(5, "the later one of both dates: that of the first", () -> mergedDate(true, true, 1, 1));
        CHECK.holds(5, "the later one of both dates: that of the second", () -> mergedDate(true, true, 2, 1));
        CHECK.holds(5, "the later one of both dates: the same", () -> mergedDate(true, true, 3, 0));
        CHECK.holds(5, "all others keep theirs: an item of the first alone", () -> {
            mergedDate(true, false, 1, 1);
            mergedDate(true, false, 3, 0);
        });
        CHECK.holds(5, "all others keep theirs: an item of the second alone", () -> {
            mergedDate(false, true, 2, 1);
            mergedDate(false, true, 3, 0);
        });
        CHECK.holds(5, "The first one stays as it is", () -> {
            DistinctDale x = mixed();
            List<Integer> items = Check.sampleOf(x, 1);
            CHECK.due("merge(1, 0)", x.merge(1, 0), 5);
            CHECK.due("its items", Check.sampleOf(x, 1), items);
            CHECK.due("a date that is later in the second", x.dateOf(1, 50), 0);
            CHECK.due("a date of an item that both have", x.dateOf(1, 10), 0);
            CHECK.due("a date that is later in the first", x.dateOf(1, 40), 3);
            x.empty(0);
            CHECK.due("its items when the second is emptied", Check.sampleOf(x, 1), items);
        });
        CHECK.holds(5, "The first one stays as it is, and the second one behind its later changes", () -> {
            DistinctDale x = mixed();
            x.merge(3, 4);
            x.pass(5);
            x.add(3, 99000);
            x.add(3, 1);
            CHECK.due("the second's date", x.dateOf(4, 99000), 1);
            CHECK.due("the second's items", x.plain(4), 10);
            x.empty(3);
            CHECK.due("the second's items when the first is emptied", x.plain(4), 10);
        });
    }

    /** Item 50 comes at tick 0; at tick 1 it comes again: 1 to the first, 2 to the second, 3 to neither. */
    private static void mergedDate(boolean firstHas, boolean secondHas, int again, int due) {
        for (int item : new int[] {0, 50, 99999}) {
            DistinctDale x = new DistinctDale(4);
            Check.addAll(x, 0, 20, 80);
            Check.addAll(x, 1, 20, 60);
            if (firstHas) {
                x.add(0, item);
            }
            if (secondHas) {
                x.add(1, item);
            }
            x.pass(1);
            if (again < 3) {
                x.add(again - 1, item);
            }
            x.pass(1);
            CHECK.due("merge(0, 1)", x.merge(0, 1), firstHas && !secondHas ? 2 : 1);
            CHECK.due("the date of " + item, x.dateOf(1, item), due);
        }
    }

    private static void mergeOrders() {
        CHECK.holds(5, "which has the items of both then: all of the first below", () -> merged(10, 1, 50, 1));
        CHECK.holds(5, "which has the items of both then: all of the first above", () -> merged(50, 1, 10, 1));
        CHECK.holds(5, "which has the items of both then: by turns", () -> merged(10, 2, 11, 2));
        CHECK.holds(5, "which has the items of both then: the first between", () -> merged(20, 1, 10, 20));
        CHECK.holds(5, "which has the items of both then: the second between", () -> merged(10, 20, 20, 1));
        CHECK.holds(5, "which has the items of both then: the same ones", () -> merged(10, 3, 10, 3));
        CHECK.holds(5, "which has the items of both then: one in common at an end", () -> {
            merged(10, 1, 17, 1);
            merged(17, 1, 10, 1);
        });
        CHECK.holds(5, "which has the items of both then: the least and the greatest item", () -> {
            DistinctDale x = new DistinctDale(4);
            x.add(0, 0);
            x.add(1, 99999);
            CHECK.due("merge(0, 1)", x.merge(0, 1), 1);
            CHECK.due("its items", Check.sampleOf(x, 1), List.of(0, 99999));
            CHECK.due("merge(1, 0)", x.merge(1, 0), 1);
            CHECK.due("its items too", Check.sampleOf(x, 0), List.of(0, 99999));
        });
    }

    private static void merged(int first, int step, int otherFirst, int otherStep) {
        DistinctDale x = new DistinctDale(4);
        Model model = new Model(4);
        x.addLine(0, first, step, 8);
        model.addLine(0, first, step, 8);
        x.pass(1);
        model.pass(1);
        x.addLine(1, otherFirst, otherStep, 8);
        model.addLine(1, otherFirst, otherStep, 8);
        CHECK.due("merge(0, 1)", x.merge(0, 1), model.merge(0, 1));
        for (int item = 0; item < 180; item++) {
            CHECK.due("the date of " + item, x.dateOf(1, item), model.dateOf(1, item));
        }
    }

    private static void ticks() {
        CHECK.holds(6, "ticks: 1 is the least", () -> {
            DistinctDale x = new DistinctDale(4);
            CHECK.due("pass(1)", x.pass(1), 1);
            CHECK.due("pass(1) again", x.pass(1), 2);
        });
        CHECK.holds(6, "ticks: 1000 is the greatest", () -> {
            DistinctDale x = new DistinctDale(4);
            CHECK.due("pass(999)", x.pass(999), 999);
            CHECK.due("pass(1000)", x.pass(1000), 1999);
        });
        CHECK.holds(6, "the clock then, as far as 512 calls bring it", () -> {
            DistinctDale x = new DistinctDale(4);
            for (int call = 1; call <= 512; call++) {
                CHECK.due("call " + call, x.pass(1000), 1000L * call);
            }
        });
        CHECK.holds(6, "the baskets stay as they are", () -> {
            DistinctDale x = new DistinctDale(4);
            x.addLine(0, 3, 5, 7);
            x.pass(1000);
            CHECK.due("the items", Check.sampleOf(x, 0), List.of(3, 8, 13, 18, 23, 28, 33));
            CHECK.due("a date", x.dateOf(0, 33), 0);
            CHECK.due("what comes again", x.addLine(0, 3, 5, 7), 0);
        });
        CHECK.holds(7, "The clock counts ticks from 0 on", () -> {
            DistinctDale x = new DistinctDale(4);
            CHECK.due("clock() of a new object", x.clock(), 0);
            x.pass(1);
            CHECK.due("clock() behind pass(1)", x.clock(), 1);
            x.pass(1000);
            CHECK.due("clock() behind pass(1000)", x.clock(), 1001);
            CHECK.due("clock() asked again", x.clock(), 1001);
        });
        CHECK.holds(7, "no other call moves the clock", () -> {
            DistinctDale x = mixed();
            x.empty(0);
            x.merge(1, 0);
            x.addLine(5, 0, 1, 60);
            x.recent(5, 100000);
            CHECK.due("clock()", x.clock(), 3);
        });
        CHECK.holds(7, "The clock as far as 511 calls bring it", () -> {
            DistinctDale x = new DistinctDale(4);
            for (int call = 1; call <= 511; call++) {
                x.pass(1000);
            }
            CHECK.due("clock()", x.clock(), 511000);
        });
    }

    /** An object is used for 512 calls: the last of them still answers. */
    private static void fullRuns() {
        CHECK.holds(2, "as many items as 512 calls bring", () -> {
            DistinctDale x = new DistinctDale(4);
            for (int call = 0; call < 511; call++) {
                // Alternately from both ends, so that items come below and above those that are there.
                int item = call % 2 == 0 ? call : 99999 - call;
                CHECK.due("add(0, " + item + ")", x.add(0, item), true);
            }
            CHECK.due("the 512th call", x.add(0, 99998), false);
        });
        CHECK.holds(3, "as many items as 512 calls bring", () -> {
            DistinctDale x = new DistinctDale(4);
            for (int call = 511; call > 0; call--) {
                CHECK.due("line " + call, x.addLine(0, 60 * call, 1, 60), 60);
            }
            CHECK.due("the 512th call", x.addLine(0, 59, 1, 60), 1);
        });
        CHECK.holds(4, "as many items as 512 calls bring", () -> {
            DistinctDale x = new DistinctDale(4);
            for (int call = 0; call < 510; call++) {
                x.addLine(5, 60 * call, 1, 60);
            }
            CHECK.due("empty(5)", x.empty(5), 30600);
            CHECK.due("empty(5) again", x.empty(5), 0);
        });
        CHECK.holds(5, "as many items as 512 calls bring", () -> {
            DistinctDale x = new DistinctDale(4);
            for (int call = 0; call < 255; call++) {
                x.addLine(0, 120 * call, 2, 60);
                x.addLine(1, 120 * call + 1, 2, 60);
            }
            CHECK.due("merge(0, 1)", x.merge(0, 1), 15300);
            CHECK.due("merge(1, 0)", x.merge(1, 0), 15300);
        });
        for (int many : new int[] {60, 120, 180, 300, 15000}) {
            CHECK.holds(5, "many items into a basket that never had one, and into one of one item", () ->
                mergedAtOnce(many));
        }
    }

    private static void mergedAtOnce(int many) {
        DistinctDale x = new DistinctDale(4);
        for (int item = 0; item < many; item += 60) {
            x.addLine(0, 3 * item, 3, 60);
        }
        int last = 3 * (many - 1);
        x.add(2, last);
        x.pass(1);
        x.add(0, last);
        CHECK.due("merge(0, 1) of " + many, x.merge(0, 1), many);
        CHECK.due("merge(0, 2) of " + many, x.merge(0, 2), many - 1);
        for (int basket = 0; basket < 3; basket++) {
            CHECK.due("plain(" + basket + ")", x.plain(basket), many);
            CHECK.due("the date of the first", x.dateOf(basket, 0), 0);
            CHECK.due("the date of one between", x.dateOf(basket, last / 6 * 3), 0);
            CHECK.due("the date of the last", x.dateOf(basket, last), 1);
            CHECK.due("the item behind the last", x.dateOf(basket, last + 3), DistinctDale.NONE);
        }
    }
}
