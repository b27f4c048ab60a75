/** The boundary cases of promises 8 to 11, each sentence with a test of its own. */
public final class PlainSetEdgesTest {
    private static final Check CHECK = new Check("PlainSetEdgesTest");

    public static void main(String[] args) {
        plain();
        plainCommon();
        dateOf();
        hash();
        CHECK.promises(8, 11);
        CHECK.end();
    }

    private static void plain() {
        CHECK.holds(8, "basket: 0 to 5", () -> {
            DistinctDale x = new DistinctDale(2);
            for (int basket = 0; basket < 6; basket++) {
                x.addLine(basket, 40, 3, 10 * basket + 1);
            }
            for (int basket = 0; basket < 6; basket++) {
                CHECK.due("plain(" + basket + ")", x.plain(basket), 10 * basket + 1);
            }
        });
        CHECK.holds(8, "a basket without items", () -> {
            DistinctDale x = new DistinctDale(2);
            CHECK.due("a new one", x.plain(5), 0);
            x.addLine(5, 0, 1, 60);
            x.empty(5);
            CHECK.due("an emptied one", x.plain(5), 0);
        });
        CHECK.holds(8, "how many distinct ones", () -> {
            DistinctDale x = new DistinctDale(2);
            x.add(0, 4);
            x.add(0, 4);
            x.pass(1);
            x.add(0, 4);
            CHECK.due("one item three times", x.plain(0), 1);
            x.addLine(0, 0, 2, 5);
            CHECK.due("a line with it", x.plain(0), 5);
            Check.addAll(x, 0, 0, 99999);
            CHECK.due("the least and the greatest item", x.plain(0), 6);
        });
        CHECK.holds(8, "as many as 512 calls bring", () -> {
            DistinctDale x = new DistinctDale(2);
            for (int call = 0; call < 511; call++) {
                x.addLine(0, 180 * call, 3, 60);
            }
            CHECK.due("plain(0)", x.plain(0), 30660);
        });
    }

    private static void plainCommon() {
        CHECK.holds(9, "one: 0 to 5, other: 0 to 5", () -> {
            DistinctDale x = new DistinctDale(2);
            for (int basket = 0; basket < 6; basket++) {
                x.addLine(basket, 10 * basket, 1, 60 - 10 * basket);
            }
            for (int one = 0; one < 6; one++) {
                for (int other = 0; other < 6; other++) {
                    CHECK.due("plainCommon(" + one + ", " + other + ")", x.plainCommon(one, other),
                        60 - 10 * Math.max(one, other));
                }
            }
        });
        CHECK.holds(9, "baskets without items", () -> {
            DistinctDale x = new DistinctDale(2);
            CHECK.due("both", x.plainCommon(0, 5), 0);
            CHECK.due("one with itself", x.plainCommon(0, 0), 0);
            x.addLine(0, 0, 1, 60);
            CHECK.due("the second", x.plainCommon(0, 5), 0);
            CHECK.due("the first", x.plainCommon(5, 0), 0);
        });
        CHECK.holds(9, "a basket with itself: all of them", () -> {
            DistinctDale x = new DistinctDale(2);
            x.addLine(3, 7, 999, 60);
            CHECK.due("plainCommon(3, 3)", x.plainCommon(3, 3), 60);
        });
        CHECK.holds(9, "the least and the greatest item in common", () -> {
            DistinctDale x = new DistinctDale(2);
            Check.addAll(x, 0, 0, 5, 99999);
            Check.addAll(x, 1, 0, 6, 99999);
            Check.addAll(x, 2, 0);
            Check.addAll(x, 4, 99999);
            CHECK.due("both", x.plainCommon(0, 1), 2);
            CHECK.due("the least", x.plainCommon(0, 2), 1);
            CHECK.due("the greatest", x.plainCommon(0, 4), 1);
            CHECK.due("neither", x.plainCommon(2, 4), 0);
        });
        CHECK.holds(9, "none in common, though they lie side by side", () -> {
            DistinctDale x = new DistinctDale(2);
            x.addLine(0, 0, 2, 60);
            x.addLine(1, 1, 2, 60);
            CHECK.due("plainCommon(0, 1)", x.plainCommon(0, 1), 0);
            CHECK.due("plainCommon(1, 0)", x.plainCommon(1, 0), 0);
        });
        CHECK.holds(9, "items in common at unlike dates", () -> {
            DistinctDale x = new DistinctDale(2);
            x.addLine(0, 10, 5, 10);
            x.pass(1000);
            x.addLine(1, 20, 5, 10);
            CHECK.due("plainCommon(0, 1)", x.plainCommon(0, 1), 8);
            CHECK.due("plainCommon(1, 0)", x.plainCommon(1, 0), 8);
        });
    }

    private static void dateOf() {
        CHECK.holds(10, "basket: 0 to 5", () -> {
            DistinctDale x = new DistinctDale(2);
            for (int basket = 0; basket < 6; basket++) {
                x.add(basket, 33);
                x.pass(10);
            }
            for (int basket = 0; basket < 6; basket++) {
                CHECK.due("dateOf(" + basket + ", 33)", x.dateOf(basket, 33), 10 * basket);
            }
        });
        CHECK.holds(10, "item: 0 to 99999", () -> {
            DistinctDale x = new DistinctDale(2);
            x.pass(3);
            Check.addAll(x, 0, 0, 99999);
            CHECK.due("dateOf(0, 0)", x.dateOf(0, 0), 3);
            CHECK.due("dateOf(0, 1)", x.dateOf(0, 1), -1);
            CHECK.due("dateOf(0, 99998)", x.dateOf(0, 99998), -1);
            CHECK.due("dateOf(0, 99999)", x.dateOf(0, 99999), 3);
        });
        CHECK.holds(10, "NONE if the basket does not have it", () -> {
            DistinctDale x = new DistinctDale(2);
            CHECK.due("NONE", DistinctDale.NONE, -1);
            for (int item : new int[] {0, 50, 99999}) {
                CHECK.due("of a basket without items, " + item, x.dateOf(2, item), DistinctDale.NONE);
            }
            x.addLine(2, 10, 10, 60);
            for (int item : new int[] {0, 9, 11, 19, 599, 601, 610, 99999}) {
                CHECK.due("below, between and above, " + item, x.dateOf(2, item), DistinctDale.NONE);
            }
            CHECK.due("of another basket", x.dateOf(1, 10), DistinctDale.NONE);
            x.empty(2);
            CHECK.due("of an emptied basket", x.dateOf(2, 10), DistinctDale.NONE);
        });
        CHECK.holds(10, "the tick, which may be 0", () -> {
            DistinctDale x = new DistinctDale(2);
            x.add(2, 10);
            CHECK.due("at tick 0", x.dateOf(2, 10), 0);
            x.pass(1000);
            CHECK.due("1000 ticks later", x.dateOf(2, 10), 0);
        });
        CHECK.holds(10, "the tick, as late as 512 calls bring it", () -> {
            DistinctDale x = new DistinctDale(2);
            for (int call = 0; call < 510; call++) {
                x.pass(1000);
            }
            x.add(0, 8);
            CHECK.due("dateOf(0, 8)", x.dateOf(0, 8), 510000);
        });
        CHECK.holds(10, "every item of a basket of many", () -> {
            for (int many : new int[] {1, 2, 3, 59, 60}) {
                DistinctDale x = new DistinctDale(2);
                x.pass(9);
                x.addLine(0, 100, 2, many);
                for (int item = 98; item <= 100 + 2 * many; item++) {
                    boolean has = item >= 100 && item % 2 == 0 && item < 100 + 2 * many;
                    CHECK.due("of " + many + ", " + item, x.dateOf(0, item), has ? 9 : DistinctDale.NONE);
                }
            }
        });
    }

    private static void hash() {
        CHECK.holds(11, "item: 0 is the least", () -> hashIs(0, 101));
        CHECK.holds(11, "item: 99999 is the greatest", () -> hashIs(99999, 1752717));
        CHECK.holds(11, "the remainder by P: the last item whose hash needs none, and the first whose does", () -> {
            hashIs(254, 16712539);
            hashIs(255, 16795931 - 16777213);
        });
        CHECK.holds(11, "reckoned without an upper bound: where the sum passes the greatest int", () -> hashesAround(5239));
        CHECK.holds(11, "reckoned without an upper bound: where 69 * item * item passes it", () -> hashesAround(5578));
        CHECK.holds(11, "reckoned without an upper bound: where the sum passes 2 to the power of 32", () ->
            hashesAround(7547));
        CHECK.holds(11, "reckoned without an upper bound: where 48271 * item passes the greatest int", () ->
            hashesAround(44488));
        CHECK.holds(11, "reckoned without an upper bound: where item * item passes the greatest int", () ->
            hashesAround(46340));
        CHECK.holds(11, "0 to 16777212: the least and the greatest that any item has", () -> {
            hashIs(0, 101);
            hashIs(61271, 16776976);
            CHECK.due("hashes below or above them", Items.whoseHash(hash -> hash < 101 || hash > 16776976).size(), 0);
        });
        CHECK.holds(11, "the hash of an item rests on nothing else", () -> {
            DistinctDale x = new DistinctDale(32);
            x.addLine(0, 0, 1, 60);
            x.pass(1000);
            CHECK.due("hash(5) of a used object", x.hash(5), 243181);
            CHECK.due("hash(5) of a new one", new DistinctDale(-1).hash(5), 243181);
        });
    }

    private static void hashIs(int item, int due) {
        CHECK.due("hash(" + item + ")", new DistinctDale(2).hash(item), due);
        CHECK.due("the model's hash of " + item, Items.hash(item), due);
    }

    private static void hashesAround(int item) {
        DistinctDale x = new DistinctDale(2);
        for (int near = item - 2; near <= item + 3; near++) {
            CHECK.due("hash(" + near + ")", x.hash(near), Items.hash(near));
        }
    }
}
