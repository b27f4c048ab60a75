import java.util.ArrayList;
import java.util.Collections;
import java.util.List;

/** The boundary cases of promises 22 to 25, each sentence with a test of its own. */
public final class SampleEdgesTest {
    private static final Check CHECK = new Check("SampleEdgesTest");
    /** Of the items whose hash 2 divides 13 times and more there are 14, so that no level is above 13. */
    private static final int HIGHEST_LEVEL = 13;

    public static void main(String[] args) {
        level();
        sampled();
        sampledAt();
        bySample();
        sampleFollowsTheItems();
        CHECK.promises(22, 25);
        CHECK.end();
    }

    /** So many items whose hash 2 to the power of the level divides, in rising order. */
    private static List<Integer> divided(int level, int many) {
        return Items.whoseHash(hash -> hash % (1 << level) == 0).subList(0, many);
    }

    /** So many items whose hash 2 to the power of the level divides, and one that just half of it divides. */
    private static DistinctDale basketOf(int level, int many) {
        DistinctDale x = new DistinctDale(2);
        Check.addAll(x, 3, Items.array(divided(level, many)));
        if (level > 0) {
            x.add(3, Items.ofTwos(level - 1).get(0));
        }
        return x;
    }

    private static void level() {
        CHECK.holds(22, "basket: 0 to 5", () -> {
            DistinctDale x = new DistinctDale(2);
            for (int basket = 0; basket < 6; basket++) {
                Check.addAll(x, basket, Items.array(divided(basket, 16)));
                Check.addAll(x, basket, basket > 0 ? Items.ofTwos(basket - 1).get(0) : divided(0, 16).get(0));
            }
            for (int basket = 0; basket < 6; basket++) {
                CHECK.due("level(" + basket + ")", x.level(basket), basket);
            }
        });
        CHECK.holds(22, "0 of a basket without items", () -> {
            DistinctDale x = new DistinctDale(2);
            CHECK.due("a new one", x.level(0), 0);
            x.addLine(0, 0, 1, 60);
            x.empty(0);
            CHECK.due("an emptied one", x.level(0), 0);
        });
        for (int level = 0; level <= HIGHEST_LEVEL; level++) {
            int asked = level;
            if (level < HIGHEST_LEVEL) {
                CHECK.holds(22, "at most 16 items: 16 at level " + level, () ->
                    CHECK.due("level(3)", basketOf(asked, 16).level(3), asked));
                CHECK.holds(22, "at most 16 items: 17 are too many at level " + level, () ->
                    CHECK.due("level(3)", basketOf(asked, 17).level(3), levelAbove(asked)));
            }
            if (level > 0) {
                CHECK.holds(22, "the least number l: 17 items and fewer of them at level " + level, () -> {
                    DistinctDale x = new DistinctDale(2);
                    List<Integer> items = Items.ofTwos(asked - 1);
                    int many = Math.min(16, items.size());
                    Check.addAll(x, 3, Items.array(items.subList(0, many)));
                    Check.addAll(x, 3, Items.array(divided(asked, 17 - many)));
                    CHECK.due("level(3)", x.level(3), asked);
                });
            }
        }
        CHECK.holds(22, "the level that follows may lie more than one above", () -> {
            DistinctDale x = new DistinctDale(2);
            Check.addAll(x, 3, Items.array(divided(10, 17)));
            CHECK.due("17 items whose hashes 2 divides ten times and more", x.level(3), levelAbove(10));
            x.addLine(2, 0, 1, 17);
            CHECK.due("17 items of odd hashes", x.level(2), 1);
            DistinctDale y = new DistinctDale(2);
            Check.addAll(y, 0, Items.array(Items.ofTwos(7).subList(0, 17)));
            CHECK.due("17 items whose hashes 2 divides just seven times", y.level(0), 8);
        });
        CHECK.holds(22, "the highest level that a basket of items reaches", () -> {
            DistinctDale x = new DistinctDale(2);
            Check.addAll(x, 0, Items.array(divided(12, 24)));
            CHECK.due("all 24 items whose hashes 2 divides twelve times and more", x.level(0), 13);
        });
    }

    /** The level of the first 17 items whose hash 2 to the power of a level divides. */
    private static int levelAbove(int level) {
        List<Integer> items = new ArrayList<>(divided(level, 17));
        int above = level;
        while (items.size() > 16) {
            above++;
            int divisor = 1 << above;
            items.removeIf(item -> Items.hash(item) % divisor != 0);
        }
        return above;
    }

    private static void sampled() {
        CHECK.holds(23, "basket: 0 to 5", () -> {
            DistinctDale x = new DistinctDale(2);
            for (int basket = 0; basket < 6; basket++) {
                x.addLine(basket, 0, 1, basket + 11);
            }
            for (int basket = 0; basket < 6; basket++) {
                CHECK.due("sampled(" + basket + ")", x.sampled(basket), basket + 11);
            }
        });
        CHECK.holds(23, "0 of a basket without items", () -> {
            DistinctDale x = new DistinctDale(2);
            CHECK.due("a new one", x.sampled(0), 0);
            x.addLine(0, 0, 1, 16);
            x.empty(0);
            CHECK.due("an emptied one", x.sampled(0), 0);
        });
        CHECK.holds(23, "The sample has these items: 1 to 16 of a basket, all of them", () -> {
            DistinctDale x = new DistinctDale(2);
            for (int many = 1; many <= 16; many++) {
                x.add(0, 999 * many);
                CHECK.due("of " + many, x.sampled(0), many);
            }
        });
        CHECK.holds(23, "The sample has these items: 16 at each level", () -> {
            for (int level = 0; level < HIGHEST_LEVEL; level++) {
                CHECK.due("at level " + level, basketOf(level, 16).sampled(3), 16);
            }
        });
        CHECK.holds(23, "The sample has these items: none, though the basket has 17", () -> {
            DistinctDale x = new DistinctDale(2);
            Check.addAll(x, 0, Items.array(Items.ofTwos(0).subList(0, 17)));
            CHECK.due("sampled(0)", x.sampled(0), 0);
        });
        CHECK.holds(23, "The sample has these items: one of 17", () -> {
            DistinctDale x = new DistinctDale(2);
            Check.addAll(x, 0, Items.array(Items.ofTwos(0).subList(0, 16)));
            x.add(0, Items.ofTwos(1).get(0));
            CHECK.due("sampled(0)", x.sampled(0), 1);
        });
    }

    private static void sampledAt() {
        CHECK.holds(24, "basket: 0 to 5", () -> {
            DistinctDale x = new DistinctDale(2);
            for (int basket = 0; basket < 6; basket++) {
                x.add(basket, 77 + basket);
            }
            for (int basket = 0; basket < 6; basket++) {
                CHECK.due("sampledAt(" + basket + ", 0)", x.sampledAt(basket, 0), 77 + basket);
            }
        });
        CHECK.holds(24, "by rising items, in whatever order they come", () -> {
            List<Integer> items = divided(3, 16);
            List<Integer> falling = new ArrayList<>(items);
            Collections.reverse(falling);
            List<Integer> byHash = new ArrayList<>(items);
            byHash.sort((one, other) -> Integer.compare(Items.hash(one), Items.hash(other)));
            DistinctDale x = new DistinctDale(2);
            Check.addAll(x, 0, Items.array(items));
            Check.addAll(x, 1, Items.array(falling));
            Check.addAll(x, 2, Items.array(byHash));
            for (int basket = 0; basket < 3; basket++) {
                CHECK.due("basket " + basket, Check.sampleOf(x, basket), items);
            }
        });
        CHECK.holds(24, "index: from 0 on; the sample has so many: 1", () -> indexes(0, 1));
        CHECK.holds(24, "the sample has so many: 15", () -> indexes(0, 15));
        CHECK.holds(24, "the sample has so many: 16", () -> indexes(0, 16));
        CHECK.holds(24, "the sample has so many: 16 of 17 items", () -> {
            for (int level = 1; level < HIGHEST_LEVEL; level++) {
                indexes(level, 16);
            }
        });
        CHECK.holds(24, "the sample has so many: none of a basket without items", () -> {
            DistinctDale x = new DistinctDale(2);
            CHECK.outOfBounds("sampledAt(0, 0)", x, () -> x.sampledAt(0, 0));
        });
        CHECK.holds(24, "the sample has so many: none of 17 items", () -> {
            DistinctDale x = new DistinctDale(2);
            Check.addAll(x, 0, Items.array(Items.ofTwos(0).subList(0, 17)));
            CHECK.outOfBounds("sampledAt(0, 0)", x, () -> x.sampledAt(0, 0));
        });
        CHECK.holds(24, "the least and the greatest item", () -> {
            DistinctDale x = new DistinctDale(2);
            Check.addAll(x, 0, 99999, 500, 0);
            CHECK.due("sampledAt(0, 0)", x.sampledAt(0, 0), 0);
            CHECK.due("sampledAt(0, 2)", x.sampledAt(0, 2), 99999);
        });
    }

    private static void indexes(int level, int many) {
        DistinctDale x = basketOf(level, many);
        List<Integer> items = divided(level, many);
        CHECK.due("the sample", Check.sampleOf(x, 3), items);
        CHECK.due("the last", x.sampledAt(3, many - 1), items.get(many - 1));
        for (int index : new int[] {many, many + 1, -1, Integer.MIN_VALUE, Integer.MAX_VALUE}) {
            CHECK.outOfBounds("sampledAt(3, " + index + ")", x, () -> x.sampledAt(3, index));
        }
    }

    private static void bySample() {
        CHECK.holds(25, "basket: 0 to 5", () -> {
            DistinctDale x = new DistinctDale(2);
            for (int basket = 0; basket < 6; basket++) {
                x.addLine(basket, 0, 1, basket + 11);
            }
            for (int basket = 0; basket < 6; basket++) {
                CHECK.due("bySample(" + basket + ")", x.bySample(basket), basket + 11);
            }
        });
        CHECK.holds(25, "0 of a basket without items", () -> {
            DistinctDale x = new DistinctDale(2);
            CHECK.due("a new one", x.bySample(0), 0);
            x.addLine(0, 0, 1, 60);
            x.empty(0);
            CHECK.due("an emptied one", x.bySample(0), 0);
        });
        CHECK.holds(25, "their number times 2 to the power of the level: at level 0, their number", () -> {
            CHECK.due("of 1", basketOf(0, 1).bySample(3), 1);
            CHECK.due("of 16", basketOf(0, 16).bySample(3), 16);
        });
        CHECK.holds(25, "their number times 2 to the power of the level: 16 at each level", () -> {
            for (int level = 0; level < HIGHEST_LEVEL; level++) {
                CHECK.due("at level " + level, basketOf(level, 16).bySample(3), 16L << level);
            }
        });
        CHECK.holds(25, "their number times 2 to the power of the level: none at level 1", () -> {
            DistinctDale x = new DistinctDale(2);
            Check.addAll(x, 0, Items.array(Items.ofTwos(0).subList(0, 17)));
            CHECK.due("bySample(0)", x.bySample(0), 0);
        });
        CHECK.holds(25, "the highest level: 14 items at level 13", () -> {
            DistinctDale x = new DistinctDale(2);
            Check.addAll(x, 0, Items.array(divided(12, 24)));
            CHECK.due("bySample(0)", x.bySample(0), 14 * 8192);
        });
    }

    private static void sampleFollowsTheItems() {
        CHECK.holds(22, "an item that comes again changes no level", () -> {
            DistinctDale x = basketOf(0, 16);
            x.pass(1);
            CHECK.due("again", x.add(3, divided(0, 16).get(15)), false);
            CHECK.due("level(3)", x.level(3), 0);
        });
        CHECK.holds(22, "the level rises by a merge, and falls when the basket is emptied", () -> {
            DistinctDale x = basketOf(5, 16);
            x.addLine(0, 0, 1, 16);
            CHECK.due("level(0)", x.level(0), 0);
            x.merge(3, 0);
            CHECK.due("level(0) then", x.level(0), 5);
            x.empty(0);
            CHECK.due("level(0) of none", x.level(0), 0);
            CHECK.due("level(3)", x.level(3), 5);
        });
        CHECK.holds(24, "the sample of as many items as 512 calls bring", () -> {
            DistinctDale x = new DistinctDale(2);
            Model model = new Model(2);
            for (int call = 0; call < 490; call++) {
                x.addLine(0, 180 * call, 3, 60);
                model.addLine(0, 180 * call, 3, 60);
            }
            CHECK.due("level(0)", x.level(0), model.level(0));
            CHECK.due("sampled(0)", x.sampled(0), model.sampled(0));
            CHECK.due("bySample(0)", x.bySample(0), model.bySample(0));
            for (int index = 0; index < model.sampled(0); index++) {
                CHECK.due("sampledAt(0, " + index + ")", x.sampledAt(0, index), model.sampledAt(0, index));
            }
        });
    }
}
