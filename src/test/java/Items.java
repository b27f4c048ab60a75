import java.util.ArrayList;
import java.util.Comparator;
import java.util.HashMap;
import java.util.List;
import java.util.Map;
import java.util.function.IntPredicate;

/** Finds items by their hashes, which are reckoned by the model and not by the class. */
final class Items {
    private static final int[] HASHES = new int[100000];
    // Its entries are 32 times the register and the rank.
    private static final Map<Integer, List<Integer>> BY_RANK = new HashMap<>();

    static {
        Model model = new Model(2);
        for (int item = 0; item < HASHES.length; item++) {
            HASHES[item] = model.hash(item);
            BY_RANK.computeIfAbsent(32 * (HASHES[item] % 16) + rank(item), key -> new ArrayList<>()).add(item);
        }
    }

    private Items() {
    }

    static int hash(int item) {
        return HASHES[item];
    }

    /** All items of which the hash is such a one, in rising order. */
    static List<Integer> whoseHash(IntPredicate isSuch) {
        List<Integer> items = new ArrayList<>();
        for (int item = 0; item < HASHES.length; item++) {
            if (isSuch.test(HASHES[item])) {
                items.add(item);
            }
        }
        return items;
    }

    /** All items by rising hashes. */
    static List<Integer> byHash() {
        List<Integer> items = whoseHash(hash -> true);
        items.sort(Comparator.comparingInt(Items::hash));
        return items;
    }

    /** The rank of an item, as the document says it. */
    static int rank(int item) {
        int quotient = HASHES[item] / 16;
        return quotient == 0 ? 21 : 1 + Integer.numberOfTrailingZeros(quotient);
    }

    /** The items of a register that have a rank, in rising order. */
    static List<Integer> ofRank(int register, int rank) {
        return BY_RANK.getOrDefault(32 * register + rank, List.of());
    }

    /** The items whose hash 2 divides just so many times, in rising order. */
    static List<Integer> ofTwos(int many) {
        return whoseHash(hash -> Integer.numberOfTrailingZeros(hash) == many);
    }

    static int[] array(List<Integer> items) {
        return items.stream().mapToInt(Integer::intValue).toArray();
    }
}
