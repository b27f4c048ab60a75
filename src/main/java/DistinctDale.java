import java.util.Arrays;

/**
 * Counts the distinct items of six baskets, exactly and by estimates in little space.
 *
 * <p>Only the items, their dates and the clock are held; every estimate is made anew from them, in
 * rows that the constructor made, so that no call but a growing basket needs new space.
 */
public final class DistinctDale {

    /** There is none. */
    public static final int NONE = -1;

    private static final int BASKETS = 6;
    private static final int ITEMS = 100000;
    private static final int HIGHEST_STEP = 999;
    private static final int LONGEST_LINE = 60;
    private static final int MOST_TICKS_AT_ONCE = 1000;
    private static final int LONGEST_WINDOW = 100000;
    private static final int FEWEST_KEPT = 2;
    private static final int MOST_KEPT = 32;
    private static final int HASH_BOUND = 16777213;

    private final Basket[] baskets;
    private final Registers registers;
    private final Thinning thinning;
    private final LeastHashes leastOfOne;
    private final LeastHashes leastOfOther;
    private final LeastHashes leastOfBoth;
    private final int[] lineItems;
    private final int[] lineDates;
    private final int keptAtMost;
    private int now;

    /** Makes empty baskets at tick 0; k is how many least hashes are kept, 2 to 32. */
    public DistinctDale(int k) {
        keptAtMost = Math.max(FEWEST_KEPT, Math.min(MOST_KEPT, k));
        baskets = new Basket[BASKETS];
        for (int i = 0; i < baskets.length; i++) {
            baskets[i] = new Basket();
        }
        registers = new Registers();
        thinning = new Thinning();
        leastOfOne = new LeastHashes(keptAtMost);
        leastOfOther = new LeastHashes(keptAtMost);
        leastOfBoth = new LeastHashes(keptAtMost);
        lineItems = new int[LONGEST_LINE];
        lineDates = new int[LONGEST_LINE];
        now = 0;
    }

    // ---- items and ticks

    /** Lets an item come into a basket now; tells whether the basket did not have it. */
    public boolean add(int basket, int item) throws IndexOutOfBoundsException, IllegalArgumentException {
        Basket target = need(basket);
        refuseUnless(isItem(item));
        return takeLine(target, item, 1, 1) == 1;
    }

    /** Lets a line of items come into a basket now; answers how many the basket did not have. */
    public int addLine(int basket, int first, int step, int many)
            throws IndexOutOfBoundsException, IllegalArgumentException {
        Basket target = need(basket);
        refuseUnless(isItem(first));
        refuseUnless(step >= 1 && step <= HIGHEST_STEP);
        refuseUnless(many >= 1 && many <= LONGEST_LINE);
        refuseUnless(isItem(first + step * (many - 1)));
        return takeLine(target, first, step, many);
    }

    /** Empties a basket; answers how many items it had. */
    public int empty(int basket) throws IndexOutOfBoundsException {
        return need(basket).drain();
    }

    /** Merges a basket into another one; answers how many items are new there. */
    public int merge(int from, int to) throws IndexOutOfBoundsException {
        Basket source = need(from);
        Basket target = need(to);
        return target.take(source.items, source.dates, source.size);
    }

    /** Lets ticks pass; answers the clock then. */
    public int pass(int ticks) throws IllegalArgumentException {
        refuseUnless(ticks >= 1 && ticks <= MOST_TICKS_AT_ONCE);
        now += ticks;
        return now;
    }

    /** Answers the clock. */
    public int clock() {
        return now;
    }

    // ---- plain sets

    /** Counts the items of a basket. */
    public int plain(int basket) throws IndexOutOfBoundsException {
        return need(basket).size;
    }

    /** Counts the items that two baskets have in common. */
    public int plainCommon(int one, int other) throws IndexOutOfBoundsException {
        Basket first = need(one);
        Basket second = need(other);
        return first.countShared(second.items, second.size);
    }

    /** Answers the date of an item in a basket; NONE if the basket does not have it. */
    public int dateOf(int basket, int item) throws IndexOutOfBoundsException, IllegalArgumentException {
        Basket asked = need(basket);
        refuseUnless(isItem(item));
        return asked.dateFor(item);
    }

    /** Answers the hash of an item. */
    public int hash(int item) throws IllegalArgumentException {
        refuseUnless(isItem(item));
        return hashFor(item);
    }

    // ---- least hashes

    /** Answers k. */
    public int most() {
        return keptAtMost;
    }

    /** Answers how many hashes a basket keeps. */
    public int kept(int basket) throws IndexOutOfBoundsException {
        leastOfOne.keepThoseOf(need(basket));
        return leastOfOne.size;
    }

    /** Answers a hash that a basket keeps, by rising hashes. */
    public int keptAt(int basket, int index) throws IndexOutOfBoundsException {
        leastOfOne.keepThoseOf(need(basket));
        if (index < 0 || index >= leastOfOne.size) {
            throw new IndexOutOfBoundsException("the basket does not keep so many");
        }
        return at(leastOfOne.hashes, index);
    }

    /** Estimates the number of distinct items of a basket by its least hashes. */
    public int byLeast(int basket) throws IndexOutOfBoundsException {
        leastOfOne.keepThoseOf(need(basket));
        return leastOfOne.estimate();
    }

    /** Estimates the number of distinct items that two baskets have together. */
    public int together(int one, int other) throws IndexOutOfBoundsException {
        keepLeastOf(need(one), need(other));
        return leastOfBoth.estimate();
    }

    /** Estimates the number of items that two baskets have in common. */
    public int common(int one, int other) throws IndexOutOfBoundsException {
        keepLeastOf(need(one), need(other));
        int inBoth = 0;
        for (int i = 0; i < leastOfBoth.size; i++) {
            int hash = at(leastOfBoth.hashes, i);
            if (leastOfOne.has(hash) && leastOfOther.has(hash)) {
                inBoth++;
            }
        }
        return leastOfBoth.estimateOfPart(inBoth);
    }

    /** Estimates the number of items that a basket has, and another one has not. */
    public int without(int one, int other) throws IndexOutOfBoundsException {
        keepLeastOf(need(one), need(other));
        int inFirstAlone = 0;
        for (int i = 0; i < leastOfBoth.size; i++) {
            if (!leastOfOther.has(at(leastOfBoth.hashes, i))) {
                inFirstAlone++;
            }
        }
        return leastOfBoth.estimateOfPart(inFirstAlone);
    }

    // ---- registers

    /** Answers a register of a basket. */
    public int register(int basket, int register) throws IndexOutOfBoundsException {
        Basket asked = need(basket);
        if (register < 0 || register >= Registers.COUNT) {
            throw new IndexOutOfBoundsException("no such register");
        }
        registers.rankAllOf(asked);
        return at(registers.ranks, register);
    }

    /** Estimates the number of distinct items of a basket by its registers, in thousandths. */
    public long byRegisters(int basket) throws IndexOutOfBoundsException {
        registers.rankAllOf(need(basket));
        return registers.estimate();
    }

    /** Estimates the number of distinct items within the last ticks, in thousandths. */
    public long recent(int basket, int ticks) throws IndexOutOfBoundsException, IllegalArgumentException {
        Basket asked = need(basket);
        refuseUnless(ticks >= 1 && ticks <= LONGEST_WINDOW);
        registers.rankThoseAbove(now - ticks, asked);
        return registers.estimate();
    }

    // ---- the thinned sample

    /** Answers the level of the sample of a basket. */
    public int level(int basket) throws IndexOutOfBoundsException {
        thinning.thin(need(basket));
        return thinning.levelFound;
    }

    /** Answers how many items the sample of a basket has. */
    public int sampled(int basket) throws IndexOutOfBoundsException {
        thinning.thin(need(basket));
        return thinning.size;
    }

    /** Answers an item of the sample of a basket, by rising items. */
    public int sampledAt(int basket, int index) throws IndexOutOfBoundsException {
        Basket asked = need(basket);
        thinning.thin(asked);
        if (index < 0 || index >= thinning.size) {
            throw new IndexOutOfBoundsException("the sample has not so many");
        }
        return thinning.itemAt(asked, index);
    }

    /** Estimates the number of distinct items of a basket by its sample. */
    public int bySample(int basket) throws IndexOutOfBoundsException {
        thinning.thin(need(basket));
        return thinning.size << thinning.levelFound;
    }

    // ---- what the calls share

    private Basket need(int basket) throws IndexOutOfBoundsException {
        Basket found = basket >= 0 && basket < baskets.length ? baskets[basket] : null;
        if (found == null) {
            throw new IndexOutOfBoundsException("no such basket");
        }
        return found;
    }

    private static void refuseUnless(boolean right) throws IllegalArgumentException {
        if (!right) {
            throw new IllegalArgumentException("an argument is out of range");
        }
    }

    private static boolean isItem(int item) {
        return item >= 0 && item < ITEMS;
    }

    private int takeLine(Basket target, int first, int step, int many) {
        for (int i = 0; i < many; i++) {
            put(lineItems, i, first + i * step);
            put(lineDates, i, now);
        }
        return target.take(lineItems, lineDates, many);
    }

    private void keepLeastOf(Basket one, Basket other) {
        leastOfOne.keepThoseOf(one);
        leastOfOther.keepThoseOf(other);
        leastOfBoth.forget();
        leastOfBoth.offerAllOf(leastOfOne);
        leastOfBoth.offerAllOf(leastOfOther);
    }

    private static int hashFor(int item) {
        // The square of an item alone can pass the greatest int.
        long wide = item;
        return (int) ((69 * wide * wide + 48271 * wide + 101) % HASH_BOUND);
    }

    /** How many zeros the value has at its low end; a value with nothing but zeros there has most. */
    private static int lowZeros(int value, int most) {
        for (int zeros = 0; zeros < most; zeros++) {
            if ((value >> zeros & 1) == 1) {
                return zeros;
            }
        }
        return most;
    }

    /** The entry of a row; NONE, which is below every item, date and hash, where it has none. */
    private static int at(int[] row, int index) {
        return row != null && index >= 0 && index < row.length ? row[index] : NONE;
    }

    private static void put(int[] row, int index, int value) {
        if (row != null && index >= 0 && index < row.length) {
            row[index] = value;
        }
    }

    /** The items of a basket in rising order, and the date of each at the same place. */
    private static final class Basket {
        private static final int FIRST_ROOM = 64;
        // A power of two; with all the lesser ones it leads past as many items as there can be.
        private static final int LONGEST_STEP = 65536;

        int[] items = new int[FIRST_ROOM];
        int[] dates = new int[FIRST_ROOM];
        int size = 0;

        int drain() {
            int had = size;
            size = 0;
            return had;
        }

        /** Takes rising items with their dates, the later date winning; answers how many are new. */
        int take(int[] newItems, int[] newDates, int many) {
            int fresh = many - countShared(newItems, many);
            makeRoomFor(size + fresh);
            int mine = size - 1;
            int theirs = many - 1;
            // From the top down, so that no item is overwritten before it has been moved.
            for (int place = size + fresh - 1; place >= 0 && theirs >= 0; place--) {
                int myItem = at(items, mine);
                int theirItem = at(newItems, theirs);
                int myDate = myItem >= theirItem ? at(dates, mine) : NONE;
                int theirDate = theirItem >= myItem ? at(newDates, theirs) : NONE;
                mine -= myItem >= theirItem ? 1 : 0;
                theirs -= theirItem >= myItem ? 1 : 0;
                put(items, place, Math.max(myItem, theirItem));
                put(dates, place, Math.max(myDate, theirDate));
            }
            size += fresh;
            return fresh;
        }

        int countShared(int[] otherItems, int otherSize) {
            int shared = 0;
            int other = 0;
            for (int mine = 0; mine < size; mine++) {
                int item = at(items, mine);
                while (other < otherSize && at(otherItems, other) < item) {
                    other++;
                }
                if (other < otherSize && at(otherItems, other) == item) {
                    shared++;
                }
            }
            return shared;
        }

        int dateFor(int item) {
            int below = 0;
            for (int step = LONGEST_STEP; step > 0; step /= 2) {
                if (below + step <= size && at(items, below + step - 1) < item) {
                    below += step;
                }
            }
            return below < size && at(items, below) == item ? at(dates, below) : NONE;
        }

        private void makeRoomFor(int wanted) {
            int room = Math.min(ITEMS, Math.max(wanted, 2 * items.length));
            if (wanted > items.length && room > items.length) {
                items = Arrays.copyOf(items, room);
                dates = Arrays.copyOf(dates, room);
            }
        }
    }

    /** The least hashes of those that were offered, rising, each once. */
    private static final class LeastHashes {
        final int[] hashes = new int[MOST_KEPT];
        final int limit;
        int size = 0;

        LeastHashes(int limit) {
            this.limit = limit;
        }

        void forget() {
            size = 0;
        }

        void keepThoseOf(Basket basket) {
            forget();
            for (int i = 0; i < basket.size; i++) {
                offer(hashFor(at(basket.items, i)));
            }
        }

        void offerAllOf(LeastHashes others) {
            for (int i = 0; i < others.size; i++) {
                offer(at(others.hashes, i));
            }
        }

        boolean has(int hash) {
            for (int i = 0; i < size; i++) {
                if (at(hashes, i) == hash) {
                    return true;
                }
            }
            return false;
        }

        int estimate() {
            int greatest = at(hashes, size - 1);
            if (size < limit || greatest <= 0) {
                return size;
            }
            return (limit - 1) * HASH_BOUND / greatest;
        }

        /** The share of the estimate that falls to so many of the hashes. */
        int estimateOfPart(int many) {
            return size > 0 ? (int) ((long) estimate() * many / size) : 0;
        }

        private void offer(int hash) {
            boolean full = size >= limit;
            if (full && hash >= at(hashes, size - 1)) {
                return;
            }
            int place = size;
            while (place > 0 && at(hashes, place - 1) >= hash) {
                place--;
            }
            if (place < size && at(hashes, place) == hash) {
                return;
            }
            // Where all are kept already, the greatest one falls out at the end.
            size = full ? limit : size + 1;
            for (int i = size - 1; i > place; i--) {
                put(hashes, i, at(hashes, i - 1));
            }
            put(hashes, place, hash);
        }
    }

    /** The registers of a basket, made from all of its items or from the recent ones alone. */
    private static final class Registers {
        static final int COUNT = 16;
        private static final int MOST_LOW_ZEROS = 20;
        private static final int ONE = 16777216;
        private static final long FACTOR = 673L * 256 * ONE;
        private static final int HIGHEST_TABLE_ESTIMATE = 40000;
        private static final int[] ESTIMATE_BY_ZEROS = {
            0, 44361, 33271, 26784, 22181, 18610, 15693, 13227, 11090,
            9206, 7520, 5995, 4603, 3322, 2137, 1033, 0
        };

        final int[] ranks = new int[COUNT];

        void rankAllOf(Basket basket) {
            // Every date is above NONE.
            rankThoseAbove(NONE, basket);
        }

        /** Ranks the items of a basket whose date is above a bound. */
        void rankThoseAbove(int bound, Basket basket) {
            for (int i = 0; i < COUNT; i++) {
                put(ranks, i, 0);
            }
            for (int i = 0; i < basket.size; i++) {
                if (at(basket.dates, i) > bound) {
                    rank(hashFor(at(basket.items, i)));
                }
            }
        }

        long estimate() {
            long sum = 0;
            int empties = 0;
            for (int i = 0; i < COUNT; i++) {
                int rank = at(ranks, i);
                sum += ONE >> rank;
                empties += rank == 0 ? 1 : 0;
            }
            long raw = sum > 0 ? FACTOR / sum : 0;
            return raw <= HIGHEST_TABLE_ESTIMATE && empties > 0 ? at(ESTIMATE_BY_ZEROS, empties) : raw;
        }

        private void rank(int hash) {
            int register = hash % COUNT;
            int rank = 1 + lowZeros(hash / COUNT, MOST_LOW_ZEROS);
            if (rank > at(ranks, register)) {
                put(ranks, register, rank);
            }
        }
    }

    /** The level of the thinned sample of a basket, and how many items the sample has. */
    private static final class Thinning {
        private static final int HIGHEST_LEVEL = 24;
        private static final int MOST_SAMPLED = 16;

        private final int[] itemsByLowZeros = new int[HIGHEST_LEVEL + 1];
        int levelFound = 0;
        int size = 0;

        void thin(Basket basket) {
            forget();
            for (int i = 0; i < basket.size; i++) {
                count(hashFor(at(basket.items, i)));
            }
            settle();
        }

        private void forget() {
            size = 0;
            for (int i = 0; i <= HIGHEST_LEVEL; i++) {
                put(itemsByLowZeros, i, 0);
            }
        }

        private void count(int hash) {
            int zeros = lowZeros(hash, HIGHEST_LEVEL);
            put(itemsByLowZeros, zeros, at(itemsByLowZeros, zeros) + 1);
            size++;
        }

        /** Leaves out, level by level, the items that were counted, until the others are few enough. */
        private void settle() {
            levelFound = 0;
            while (size > MOST_SAMPLED && levelFound < HIGHEST_LEVEL) {
                size -= at(itemsByLowZeros, levelFound);
                levelFound++;
            }
        }

        /** An item of the sample that thin() has found in the same basket. */
        int itemAt(Basket basket, int index) {
            int before = 0;
            for (int i = 0; i < basket.size; i++) {
                int item = at(basket.items, i);
                if (lowZeros(hashFor(item), HIGHEST_LEVEL) >= levelFound) {
                    if (before == index) {
                        return item;
                    }
                    before++;
                }
            }
            return NONE;
        }
    }
}
