import java.util.ArrayList;
import java.util.Collections;
import java.util.List;

/** The boundary cases of promises 12 to 18, each sentence with a test of its own. */
public final class LeastHashEdgesTest {
    private static final Check CHECK = new Check("LeastHashEdgesTest");
    private static final long P = 16777213;

    // The items by rising hashes: the first ones have 101, 136, 182, 465 and 666.
    private static final List<Integer> BY_HASH = Items.byHash();
    private static final int GREATEST_HASH = 61271;

    public static void main(String[] args) {
        most();
        kept();
        keptAt();
        byLeast();
        pairsOfAllBaskets();
        together();
        common();
        without();
        pairsOfFewAndMany();
        nothingIsLeftOfEarlierCalls();
        CHECK.promises(12, 18);
        CHECK.end();
    }

    private static int item(int place) {
        return BY_HASH.get(place);
    }

    private static int hash(int place) {
        return Items.hash(item(place));
    }

    private static void most() {
        CHECK.holds(12, "k is told to the constructor: 2 to 32", () -> {
            for (int k = 2; k <= 32; k++) {
                CHECK.due("most() for " + k, new DistinctDale(k).most(), k);
            }
        });
        CHECK.holds(12, "k is that which counts: 2 for less, 32 for more", () -> {
            CHECK.due("most() for 1", new DistinctDale(1).most(), 2);
            CHECK.due("most() for 33", new DistinctDale(33).most(), 32);
            CHECK.due("most() for the least int", new DistinctDale(Integer.MIN_VALUE).most(), 2);
            CHECK.due("most() for the greatest int", new DistinctDale(Integer.MAX_VALUE).most(), 32);
        });
        CHECK.holds(12, "k stays, whatever comes", () -> {
            DistinctDale x = new DistinctDale(5);
            x.addLine(0, 0, 1, 60);
            x.empty(0);
            x.pass(1000);
            CHECK.due("most()", x.most(), 5);
        });
    }

    private static void kept() {
        CHECK.holds(13, "basket: 0 to 5", () -> {
            DistinctDale x = new DistinctDale(10);
            for (int basket = 0; basket < 6; basket++) {
                x.addLine(basket, 0, 1, basket + 1);
            }
            for (int basket = 0; basket < 6; basket++) {
                CHECK.due("kept(" + basket + ")", x.kept(basket), basket + 1);
            }
        });
        CHECK.holds(13, "0 of a basket without items", () -> {
            DistinctDale x = new DistinctDale(2);
            CHECK.due("a new one", x.kept(0), 0);
            x.addLine(0, 0, 1, 60);
            x.empty(0);
            CHECK.due("an emptied one", x.kept(0), 0);
        });
        CHECK.holds(13, "all if there are fewer, the least k otherwise, for every k", () -> {
            for (int k = 2; k <= 32; k++) {
                DistinctDale x = new DistinctDale(k);
                for (int many = 1; many <= k + 2; many++) {
                    x.add(0, 1000 * many);
                    CHECK.due(many + " items, k " + k, x.kept(0), Math.min(many, k));
                }
            }
        });
        CHECK.holds(13, "an item that comes again is kept once", () -> {
            DistinctDale x = new DistinctDale(2);
            x.add(0, 7);
            x.pass(1);
            x.add(0, 7);
            x.merge(0, 0);
            CHECK.due("kept(0)", x.kept(0), 1);
        });
    }

    private static void keptAt() {
        CHECK.holds(14, "basket: 0 to 5", () -> {
            DistinctDale x = new DistinctDale(10);
            for (int basket = 0; basket < 6; basket++) {
                x.add(basket, basket);
            }
            for (int basket = 0; basket < 6; basket++) {
                CHECK.due("keptAt(" + basket + ", 0)", x.keptAt(basket, 0), Items.hash(basket));
            }
        });
        CHECK.holds(14, "by rising hashes: the least k, in whatever order they come", () -> {
            for (int k = 2; k <= 32; k++) {
                List<Integer> due = new ArrayList<>();
                for (int i = 0; i < k; i++) {
                    due.add(hash(i));
                }
                List<Integer> falling = new ArrayList<>(BY_HASH.subList(0, k + 3));
                Collections.reverse(falling);
                DistinctDale x = new DistinctDale(k);
                Check.addAll(x, 0, Items.array(BY_HASH.subList(0, k + 3)));
                Check.addAll(x, 1, Items.array(falling));
                CHECK.due("rising, k " + k, Check.keptBy(x, 0), due);
                CHECK.due("falling, k " + k, Check.keptBy(x, 1), due);
            }
        });
        CHECK.holds(14, "index: from 0 on; it keeps so many: one hash", () -> indexes(4, 1));
        CHECK.holds(14, "it keeps so many: fewer than k", () -> indexes(4, 3));
        CHECK.holds(14, "it keeps so many: just k", () -> indexes(4, 4));
        CHECK.holds(14, "it keeps so many: more than k items", () -> indexes(4, 5));
        CHECK.holds(14, "it keeps so many: k 2", () -> indexes(2, 9));
        CHECK.holds(14, "it keeps so many: k 32", () -> indexes(32, 33));
        CHECK.holds(14, "the least and the greatest hash of all", () -> {
            DistinctDale x = new DistinctDale(2);
            Check.addAll(x, 0, GREATEST_HASH, 0);
            CHECK.due("the least", x.keptAt(0, 0), 101);
            CHECK.due("the greatest", x.keptAt(0, 1), 16776976);
        });
        CHECK.holds(14, "the hash just below the last one that is kept drives it out, the one just above does not", () -> {
            DistinctDale x = new DistinctDale(3);
            Check.addAll(x, 0, item(0), item(1), item(7));
            x.add(0, item(8));
            CHECK.due("one above came", Check.keptBy(x, 0), List.of(hash(0), hash(1), hash(7)));
            x.add(0, item(6));
            CHECK.due("one below came", Check.keptBy(x, 0), List.of(hash(0), hash(1), hash(6)));
        });
    }

    private static void indexes(int k, int many) {
        DistinctDale x = new DistinctDale(k);
        Check.addAll(x, 0, Items.array(BY_HASH.subList(0, many)));
        int kept = Math.min(k, many);
        CHECK.due("the first", x.keptAt(0, 0), hash(0));
        CHECK.due("the last", x.keptAt(0, kept - 1), hash(kept - 1));
        for (int index : new int[] {kept, kept + 1, 32, -1, Integer.MIN_VALUE, Integer.MAX_VALUE}) {
            CHECK.outOfBounds("keptAt(0, " + index + ")", x, () -> x.keptAt(0, index));
        }
    }

    private static void byLeast() {
        CHECK.holds(15, "basket: 0 to 5", () -> {
            DistinctDale x = new DistinctDale(10);
            for (int basket = 0; basket < 6; basket++) {
                x.addLine(basket, 0, 1, basket + 1);
            }
            for (int basket = 0; basket < 6; basket++) {
                CHECK.due("byLeast(" + basket + ")", x.byLeast(basket), basket + 1);
            }
        });
        CHECK.holds(15, "a basket without items", () -> {
            for (int k : new int[] {2, 3, 32}) {
                DistinctDale x = new DistinctDale(k);
                CHECK.due("a new one", x.byLeast(0), 0);
                x.addLine(0, 0, 1, 60);
                x.empty(0);
                CHECK.due("an emptied one", x.byLeast(0), 0);
            }
        });
        CHECK.holds(15, "their number, if there are fewer than k", () -> {
            for (int k = 2; k <= 32; k++) {
                DistinctDale x = new DistinctDale(k);
                x.addLine(0, 0, 1, k - 1);
                CHECK.due("k " + k, x.byLeast(0), k - 1);
            }
        });
        CHECK.holds(15, "otherwise (k - 1) * P, divided by the greatest one that is kept: just k", () -> {
            for (int k = 2; k <= 32; k++) {
                DistinctDale x = new DistinctDale(k);
                Check.addAll(x, 0, Items.array(BY_HASH.subList(100, 100 + k)));
                CHECK.due("k " + k, x.byLeast(0), (k - 1) * P / hash(99 + k));
            }
        });
        CHECK.holds(15, "the greatest one that is kept: more than k", () -> {
            for (int k = 2; k <= 32; k++) {
                DistinctDale x = new DistinctDale(k);
                Check.addAll(x, 0, Items.array(BY_HASH.subList(100, 101 + k)));
                CHECK.due("k " + k, x.byLeast(0), (k - 1) * P / hash(99 + k));
            }
        });
        CHECK.holds(15, "the greatest estimate of each k", () -> {
            for (int k = 2; k <= 32; k++) {
                DistinctDale x = new DistinctDale(k);
                Check.addAll(x, 0, Items.array(BY_HASH.subList(0, k)));
                CHECK.due("k " + k, x.byLeast(0), (k - 1) * P / hash(k - 1));
            }
        });
        CHECK.holds(15, "the least estimate of just k: fewer than there are", () -> {
            DistinctDale x = new DistinctDale(2);
            Check.addAll(x, 0, 0, GREATEST_HASH);
            CHECK.due("two items", x.byLeast(0), 1);
        });
        CHECK.holds(15, "All divisions are rounded down", () -> {
            DistinctDale x = new DistinctDale(2);
            Check.addAll(x, 0, item(0), item(1));
            CHECK.due("123361.8 and more", x.byLeast(0), 123361);
        });
    }

    private static void pairsOfAllBaskets() {
        DistinctDale x = new DistinctDale(32);
        for (int basket = 0; basket < 6; basket++) {
            x.addLine(basket, 0, 1, 3 * basket + 1);
        }
        CHECK.holds(16, "one: 0 to 5, other: 0 to 5", () -> {
            for (int one = 0; one < 6; one++) {
                for (int other = 0; other < 6; other++) {
                    CHECK.due(one + ", " + other, x.together(one, other), 3 * Math.max(one, other) + 1);
                }
            }
        });
        CHECK.holds(17, "one: 0 to 5, other: 0 to 5", () -> {
            for (int one = 0; one < 6; one++) {
                for (int other = 0; other < 6; other++) {
                    CHECK.due(one + ", " + other, x.common(one, other), 3 * Math.min(one, other) + 1);
                }
            }
        });
        CHECK.holds(18, "one: 0 to 5, other: 0 to 5", () -> {
            for (int one = 0; one < 6; one++) {
                for (int other = 0; other < 6; other++) {
                    CHECK.due(one + ", " + other, x.without(one, other), 3 * Math.max(0, one - other));
                }
            }
        });
    }

    private static void together() {
        CHECK.holds(16, "L of no hash", () -> {
            DistinctDale x = new DistinctDale(2);
            CHECK.due("two baskets", x.together(0, 1), 0);
            CHECK.due("one with itself", x.together(0, 0), 0);
        });
        CHECK.holds(16, "one of them without items: as the other by itself", () -> {
            for (int many : new int[] {1, 3, 4, 5, 20}) {
                DistinctDale x = new DistinctDale(4);
                x.addLine(0, 0, 1, many);
                CHECK.due("the second, of " + many, x.together(0, 1), x.byLeast(0));
                CHECK.due("the first, of " + many, x.together(1, 0), x.byLeast(0));
            }
        });
        CHECK.holds(16, "a basket with itself: each counted once", () -> {
            for (int many : new int[] {1, 3, 4, 5, 20}) {
                DistinctDale x = new DistinctDale(4);
                x.addLine(0, 0, 1, many);
                CHECK.due("of " + many, x.together(0, 0), x.byLeast(0));
            }
        });
        CHECK.holds(16, "all if there are fewer: fewer than k together", () -> {
            DistinctDale x = pairOf(6, 0, 3, 1, 5);
            CHECK.due("together(0, 1)", x.together(0, 1), 5);
        });
        CHECK.holds(16, "just k together, though neither keeps k", () -> {
            DistinctDale x = pairOf(5, 0, 3, 1, 5);
            CHECK.due("together(0, 1)", x.together(0, 1), 4 * P / hash(4));
            CHECK.due("together(1, 0)", x.together(1, 0), 4 * P / hash(4));
        });
        CHECK.holds(16, "the least k of all hashes that either keeps: more than k together", () -> {
            DistinctDale x = pairOf(4, 0, 3, 1, 5);
            CHECK.due("together(0, 1)", x.together(0, 1), 3 * P / 465);
            CHECK.due("together(1, 0)", x.together(1, 0), 3 * P / 465);
        });
        CHECK.holds(16, "both keep k, all of the first below", () -> {
            DistinctDale x = pairOf(3, 0, 5, 10, 15);
            CHECK.due("together(0, 1)", x.together(0, 1), 2 * P / hash(2));
            CHECK.due("together(1, 0)", x.together(1, 0), 2 * P / hash(2));
        });
    }

    /** Basket 0 has the items of some places by rising hashes, basket 1 those of others. */
    private static DistinctDale pairOf(int k, int first, int firstEnd, int second, int secondEnd) {
        DistinctDale x = new DistinctDale(k);
        Check.addAll(x, 0, Items.array(BY_HASH.subList(first, firstEnd)));
        Check.addAll(x, 1, Items.array(BY_HASH.subList(second, secondEnd)));
        return x;
    }

    private static void common() {
        CHECK.holds(17, "0 if L is empty", () -> {
            DistinctDale x = new DistinctDale(2);
            CHECK.due("two baskets", x.common(0, 1), 0);
            CHECK.due("one with itself", x.common(0, 0), 0);
            x.addLine(0, 0, 1, 60);
            x.empty(0);
            CHECK.due("an emptied one", x.common(0, 1), 0);
        });
        CHECK.holds(17, "one of them without items: nothing in common", () -> {
            for (int many : new int[] {1, 3, 4, 5, 20}) {
                DistinctDale x = new DistinctDale(4);
                x.addLine(0, 0, 1, many);
                CHECK.due("the second, of " + many, x.common(0, 1), 0);
                CHECK.due("the first, of " + many, x.common(1, 0), 0);
            }
        });
        CHECK.holds(17, "a basket with itself: all of U", () -> {
            for (int many : new int[] {1, 3, 4, 5, 20}) {
                DistinctDale x = new DistinctDale(4);
                x.addLine(0, 0, 1, many);
                CHECK.due("of " + many, x.common(0, 0), x.byLeast(0));
            }
        });
        CHECK.holds(17, "fewer than k together: just the number in common", () -> {
            DistinctDale x = pairOf(6, 0, 3, 1, 5);
            CHECK.due("common(0, 1)", x.common(0, 1), 2);
            CHECK.due("common(1, 0)", x.common(1, 0), 2);
        });
        CHECK.holds(17, "just k together", () -> {
            DistinctDale x = pairOf(5, 0, 3, 1, 5);
            CHECK.due("common(0, 1)", x.common(0, 1), 4 * P / hash(4) * 2 / 5);
        });
        CHECK.holds(17, "those of L that both keep: what both have beyond L does not count", () -> {
            DistinctDale x = pairOf(3, 0, 9, 2, 9);
            CHECK.due("one of three", x.common(0, 1), 2 * P / hash(2) / 3);
            x.add(0, item(20));
            x.add(1, item(20));
            CHECK.due("with one more far beyond", x.common(0, 1), 2 * P / hash(2) / 3);
        });
        CHECK.holds(17, "none of L is kept by both, though they have items in common", () -> {
            DistinctDale x = pairOf(3, 0, 9, 3, 9);
            CHECK.due("common(0, 1)", x.common(0, 1), 0);
            CHECK.due("common(1, 0)", x.common(1, 0), 0);
            CHECK.due("plainCommon(0, 1)", x.plainCommon(0, 1), 6);
        });
        CHECK.holds(17, "U, a whole number, times the number of those, then divided and rounded down", () -> {
            DistinctDale x = new DistinctDale(2);
            Check.addAll(x, 0, 0, GREATEST_HASH);
            Check.addAll(x, 1, GREATEST_HASH);
            CHECK.due("U", x.together(0, 1), 1);
            CHECK.due("one half of 1", x.common(0, 1), 0);
        });
    }

    private static void without() {
        CHECK.holds(18, "0 if L is empty", () -> {
            DistinctDale x = new DistinctDale(2);
            CHECK.due("two baskets", x.without(0, 1), 0);
            CHECK.due("one with itself", x.without(0, 0), 0);
            x.addLine(0, 0, 1, 60);
            x.empty(0);
            CHECK.due("an emptied one", x.without(0, 1), 0);
        });
        CHECK.holds(18, "the second without items: all of U", () -> {
            for (int many : new int[] {1, 3, 4, 5, 20}) {
                DistinctDale x = new DistinctDale(4);
                x.addLine(0, 0, 1, many);
                CHECK.due("of " + many, x.without(0, 1), x.byLeast(0));
            }
        });
        CHECK.holds(18, "the first without items: 0", () -> {
            for (int many : new int[] {1, 3, 4, 5, 20}) {
                DistinctDale x = new DistinctDale(4);
                x.addLine(0, 0, 1, many);
                CHECK.due("of " + many, x.without(1, 0), 0);
            }
        });
        CHECK.holds(18, "a basket with itself: 0", () -> {
            for (int many : new int[] {0, 1, 3, 4, 5, 20}) {
                DistinctDale x = new DistinctDale(4);
                Check.addAll(x, 0, Items.array(BY_HASH.subList(0, many)));
                CHECK.due("of " + many, x.without(0, 0), 0);
            }
        });
        CHECK.holds(18, "fewer than k together: just the number that the second has not", () -> {
            DistinctDale x = pairOf(6, 0, 3, 1, 5);
            CHECK.due("without(0, 1)", x.without(0, 1), 1);
            CHECK.due("without(1, 0)", x.without(1, 0), 2);
        });
        CHECK.holds(18, "just k together", () -> {
            DistinctDale x = pairOf(5, 0, 3, 1, 5);
            CHECK.due("without(0, 1)", x.without(0, 1), 4 * P / hash(4) / 5);
            CHECK.due("without(1, 0)", x.without(1, 0), 4 * P / hash(4) * 2 / 5);
        });
        CHECK.holds(18, "those of L that the second does not keep: what lies beyond L does not count", () -> {
            DistinctDale x = pairOf(3, 0, 9, 1, 3);
            CHECK.due("one of three", x.without(0, 1), 2 * P / hash(2) / 3);
            CHECK.due("none of three", x.without(1, 0), 0);
        });
        CHECK.holds(18, "U, a whole number, times the number of those, then divided and rounded down", () -> {
            DistinctDale x = new DistinctDale(2);
            Check.addAll(x, 0, 0, GREATEST_HASH);
            Check.addAll(x, 1, GREATEST_HASH);
            CHECK.due("one half of 1", x.without(0, 1), 0);
        });
    }

    /** For every k: both baskets of fewer items than k, just k and more, with few or many in common. */
    private static void pairsOfFewAndMany() {
        for (int promise = 16; promise <= 18; promise++) {
            int asked = promise;
            CHECK.holds(promise, "fewer than k, just k, more than k in either, for every k", () -> {
                for (int k = 2; k <= 32; k++) {
                    for (int many = k - 1; many <= k + 1; many++) {
                        for (int start = 0; start <= many + 1; start += 1 + many / 3) {
                            pair(asked, k, many, start);
                        }
                    }
                }
            });
        }
    }

    private static void pair(int promise, int k, int many, int start) {
        DistinctDale x = pairOf(k, 0, many, start, start + many);
        long inL = Math.min(k, start + many);
        long u = inL < k ? inL : (k - 1) * P / hash(k - 1);
        // The items of basket 1 begin at the place start, those of basket 0 end at the place many.
        long both = Math.max(0, Math.min(many, inL) - start);
        long inFirstAlone = Math.min(start, inL);
        if (start > many) {
            // There is a gap between them: the places many to start - 1 are in neither.
            inL = Math.min(k, 2L * many);
            long last = many >= k ? hash(k - 1) : hash(start + k - 1 - many);
            u = inL < k ? inL : (k - 1) * P / last;
            both = 0;
            inFirstAlone = Math.min(many, inL);
        }
        String what = "k " + k + ", " + many + " in either, the second from " + start;
        if (promise == 16) {
            CHECK.due(what, x.together(0, 1), u);
        } else if (promise == 17) {
            CHECK.due(what, x.common(0, 1), u * both / inL);
        } else {
            CHECK.due(what, x.without(0, 1), u * inFirstAlone / inL);
            CHECK.due(what + ", the other way round", x.without(1, 0), u * (inL - both - inFirstAlone) / inL);
        }
    }

    /** What was asked ahead had one hash more, ahead of all others. */
    private static void nothingIsLeftOfEarlierCalls() {
        DistinctDale x = new DistinctDale(5);
        Check.addAll(x, 0, item(0), item(1), item(2));
        x.merge(0, 1);
        CHECK.due("17: common(0, 1) of three", x.common(0, 1), 3);
        CHECK.due("18: without(0, 2) of three", x.without(0, 2), 3);
        x.empty(0);
        x.empty(1);
        Check.addAll(x, 0, item(1), item(2));
        x.merge(0, 1);
        String words = "Everything that is asked of a basket follows from its items: fewer than ahead";
        CHECK.holds(13, words, () -> CHECK.due("kept(0)", x.kept(0), 2));
        CHECK.holds(14, words, () -> {
            CHECK.due("what it keeps", Check.keptBy(x, 0), List.of(hash(1), hash(2)));
            CHECK.outOfBounds("keptAt(0, 2)", x, () -> x.keptAt(0, 2));
        });
        CHECK.holds(15, words, () -> CHECK.due("byLeast(0)", x.byLeast(0), 2));
        CHECK.holds(16, words, () -> CHECK.due("together(0, 1)", x.together(0, 1), 2));
        CHECK.holds(17, words, () -> CHECK.due("common(0, 1)", x.common(0, 1), 2));
        CHECK.holds(18, words, () -> {
            CHECK.due("without(0, 1)", x.without(0, 1), 0);
            CHECK.due("without(0, 2)", x.without(0, 2), 2);
        });
    }
}
