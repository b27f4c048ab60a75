import java.lang.reflect.Constructor;
import java.lang.reflect.Field;
import java.lang.reflect.Method;
import java.util.Arrays;
import java.util.HashSet;
import java.util.Set;

/**
 * What the document says of hashes that no item from 0 to 99999 has: a hash of 0, the rank of 21, two
 * items of one hash, levels above 13. First that no item has them; then what is inside the class, which
 * is asked by name, since no call of the face leads there. So are places beyond a row, at which rule 7 of
 * LANGUAGE.md lets nothing throw.
 */
public final class UnreachableTest {
    private static final Check CHECK = new Check("UnreachableTest");

    public static void main(String[] args) {
        noItemHasThem();
        rankOfLowHashes();
        zerosOfZero();
        levelsAboveAllItems();
        leastHashes();
        placesBeyondARow();
        CHECK.end();
    }

    private static void noItemHasThem() {
        CHECK.holds(11, "Unlike items can have the same hash: none do", () -> {
            Set<Integer> hashes = new HashSet<>();
            for (int item = 0; item < 100000; item++) {
                hashes.add(Items.hash(item));
            }
            CHECK.due("unlike hashes", hashes.size(), 100000);
        });
        CHECK.holds(19, "21 if that quotient is 0: the least hash is 101, the highest rank 17", () -> {
            CHECK.due("items of a hash below 101", Items.whoseHash(hash -> hash < 101).size(), 0);
            int highest = 0;
            for (int item = 0; item < 100000; item++) {
                highest = Math.max(highest, Items.rank(item));
            }
            CHECK.due("the highest rank", highest, 17);
        });
        CHECK.holds(22, "if there is none, it is 24: only 14 items have hashes that 2 divides 13 times", () ->
            CHECK.due("such items", Items.whoseHash(hash -> hash % 8192 == 0).size(), 14));
    }

    private static void rankOfLowHashes() {
        for (int hash = 0; hash < 16; hash++) {
            int low = hash;
            CHECK.holds(19, "21 if that quotient is 0: a hash of " + hash, () -> rankIs(low, 21));
        }
        CHECK.holds(19, "1 more than the number of zeros at the low end: hashes of one bit", () -> {
            for (int bit = 4; bit < 24; bit++) {
                rankIs(1 << bit, bit - 3);
                rankIs((1 << bit) + 15, bit - 3);
            }
        });
        CHECK.holds(19, "the greatest hash that there could be", () -> rankIs(16777212, 1));
        CHECK.holds(20, "divided by 2 to the power of the register: all registers 21", () -> {
            Object registers = make("Registers");
            for (int hash = 0; hash < 16; hash++) {
                call(registers, "rank", hash);
            }
            // 16777216 divided by 2 to the power of 21 is 8.
            CHECK.due("the estimate", (Long) call(registers, "estimate"), 673L * 256 * 16777216 / (16 * 8));
        });
    }

    private static void rankIs(int hash, int due) {
        Object registers = make("Registers");
        call(registers, "rank", hash);
        int[] ranks = (int[]) read(registers, "ranks");
        for (int register = 0; register < 16; register++) {
            CHECK.due("hash " + hash + ", register " + register, ranks[register], register == hash % 16 ? due : 0);
        }
    }

    private static void zerosOfZero() {
        CHECK.holds(22, "0 is divided by all", () -> {
            DistinctDale x = new DistinctDale(2);
            CHECK.due("how often 2 divides 0, of 24", (Integer) call(x, "lowZeros", 0, 24), 24);
            CHECK.due("how often 2 divides 8388608", (Integer) call(x, "lowZeros", 8388608, 24), 23);
            CHECK.due("how often 2 divides 1", (Integer) call(x, "lowZeros", 1, 24), 0);
        });
    }

    private static void levelsAboveAllItems() {
        CHECK.holds(22, "at most 16 items have hashes that 2 to the power of l divides: 16 of the hash 0", () ->
            levelIs(0, 16, 0, 16));
        CHECK.holds(22, "if there is none, it is 24: 17 of the hash 0", () -> levelIs(0, 17, 24, 17));
        CHECK.holds(22, "0 to 24: 17 that 2 divides 23 times", () -> levelIs(8388608, 17, 24, 0));
        CHECK.holds(22, "0 to 24: 17 that 2 divides 22 times", () -> levelIs(4194304, 17, 23, 0));
        CHECK.holds(22, "0 to 24: 17 that 2 divides 14 times", () -> levelIs(16384, 17, 15, 0));
    }

    private static void levelIs(int hash, int many, int level, int sampled) {
        Object thinning = make("Thinning");
        call(thinning, "forget");
        for (int i = 0; i < many; i++) {
            call(thinning, "count", hash);
        }
        call(thinning, "settle");
        CHECK.due("the level", (Integer) read(thinning, "levelFound"), level);
        CHECK.due("how many the sample has", (Integer) read(thinning, "size"), sampled);
    }

    private static void leastHashes() {
        CHECK.holds(13, "each counted once: two items of one hash", () -> {
            Object least = make("LeastHashes", 3);
            for (int hash : new int[] {9, 9, 4, 9, 4}) {
                call(least, "offer", hash);
            }
            CHECK.due("how many are kept", (Integer) read(least, "size"), 2);
            CHECK.due("the estimate, fewer than k", (Integer) call(least, "estimate"), 2);
            call(least, "offer", 12);
            call(least, "offer", 12);
            CHECK.due("how many of k are kept", (Integer) read(least, "size"), 3);
            call(least, "offer", 4);
            int[] kept = Arrays.copyOf((int[]) read(least, "hashes"), 3);
            CHECK.text("those that are kept", Arrays.toString(kept), "[4, 9, 12]");
        });
        CHECK.holds(15, "divided by the greatest one that is kept: a hash of 0 and one of 1", () -> {
            Object least = make("LeastHashes", 2);
            call(least, "offer", 0);
            CHECK.due("the hash 0 alone", (Integer) call(least, "estimate"), 1);
            call(least, "offer", 1);
            CHECK.due("with the hash 1", (Integer) call(least, "estimate"), 16777213);
        });
        CHECK.holds(15, "(k - 1) * P, divided by the greatest one that is kept: the hashes 0 to 31", () -> {
            Object least = make("LeastHashes", 32);
            for (int hash = 31; hash >= 0; hash--) {
                call(least, "offer", hash);
            }
            CHECK.due("the estimate", (Integer) call(least, "estimate"), 16777213);
            CHECK.due("all of it", (Integer) call(least, "estimateOfPart", 32), 16777213);
        });
    }

    private static void placesBeyondARow() {
        DistinctDale x = new DistinctDale(2);
        int[] row = {7, 8};
        for (int place : new int[] {-1, 2, 3, Integer.MIN_VALUE, Integer.MAX_VALUE}) {
            CHECK.due("rule 7: at place " + place + " of two", (Integer) call(x, "at", row, place), DistinctDale.NONE);
            call(x, "put", row, place, 9);
        }
        CHECK.text("rule 7: the row behind that", Arrays.toString(row), "[7, 8]");
        CHECK.due("rule 7: at place 1 of two", (Integer) call(x, "at", row, 1), 8);
        call(x, "put", row, 0, 9);
        CHECK.due("rule 7: what was put at place 0", (Integer) call(x, "at", row, 0), 9);
        CHECK.due("rule 7: at place 0 of no row", (Integer) call(x, "at", null, 0), DistinctDale.NONE);
        call(x, "put", null, 0, 9);
    }

    /** Makes an object of a class inside, whose constructor has as many parameters as there are numbers. */
    private static Object make(String inside, Object... numbers) {
        try {
            Constructor<?> constructor = Class.forName("DistinctDale$" + inside).getDeclaredConstructors()[0];
            constructor.setAccessible(true);
            return constructor.newInstance(numbers);
        } catch (ReflectiveOperationException e) {
            throw new IllegalStateException("no " + inside + " can be made", e);
        }
    }

    private static Object call(Object on, String name, Object... numbers) {
        try {
            for (Method method : on.getClass().getDeclaredMethods()) {
                if (method.getName().equals(name)) {
                    method.setAccessible(true);
                    return method.invoke(on, numbers);
                }
            }
        } catch (ReflectiveOperationException e) {
            throw new IllegalStateException(name + " cannot be called", e);
        }
        throw new IllegalStateException("there is no " + name);
    }

    private static Object read(Object of, String name) {
        try {
            Field field = of.getClass().getDeclaredField(name);
            field.setAccessible(true);
            return field.get(of);
        } catch (ReflectiveOperationException e) {
            throw new IllegalStateException("there is no " + name, e);
        }
    }
}
