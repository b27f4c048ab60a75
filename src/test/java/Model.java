import java.math.BigInteger;
import java.util.ArrayList;
import java.util.HashSet;
import java.util.List;
import java.util.Map;
import java.util.Set;
import java.util.TreeMap;
import java.util.TreeSet;

/** The document a second time, written with the Java library and without a thought for space. */
final class Model {
    private static final BigInteger P = BigInteger.valueOf(16777213);
    private static final int BASKETS = 6;
    private static final int ITEMS = 100000;
    private static final long[] TABLE = {
        -1, 44361, 33271, 26784, 22181, 18610, 15693, 13227, 11090,
        9206, 7520, 5995, 4603, 3322, 2137, 1033, 0
    };

    private final int k;
    private final List<Map<Integer, Integer>> dates = new ArrayList<>();
    private int clock;

    Model(int k) {
        this.k = k < 2 ? 2 : k > 32 ? 32 : k;
        for (int i = 0; i < BASKETS; i++) {
            dates.add(new TreeMap<>());
        }
    }

    boolean add(int basket, int item) {
        Map<Integer, Integer> target = of(basket);
        legal(item >= 0 && item < ITEMS);
        return target.put(item, clock) == null;
    }

    int addLine(int basket, int first, int step, int many) {
        of(basket);
        legal(first >= 0 && first < ITEMS && step >= 1 && step < 1000 && many >= 1 && many <= 60);
        legal(first + (many - 1L) * step < ITEMS);
        int fresh = 0;
        for (int i = 0; i < many; i++) {
            fresh += add(basket, first + i * step) ? 1 : 0;
        }
        return fresh;
    }

    int empty(int basket) {
        int had = of(basket).size();
        of(basket).clear();
        return had;
    }

    int merge(int from, int to) {
        Map<Integer, Integer> source = new TreeMap<>(of(from));
        Map<Integer, Integer> target = of(to);
        int before = target.size();
        source.forEach((item, date) -> target.merge(item, date, Integer::max));
        return target.size() - before;
    }

    int pass(int ticks) {
        legal(ticks >= 1 && ticks <= 1000);
        clock += ticks;
        return clock;
    }

    int clock() {
        return clock;
    }

    int plain(int basket) {
        return of(basket).size();
    }

    int plainCommon(int one, int other) {
        Set<Integer> shared = new HashSet<>(of(one).keySet());
        shared.retainAll(of(other).keySet());
        return shared.size();
    }

    int dateOf(int basket, int item) {
        Map<Integer, Integer> asked = of(basket);
        legal(item >= 0 && item < ITEMS);
        return asked.getOrDefault(item, -1);
    }

    int hash(int item) {
        legal(item >= 0 && item < ITEMS);
        BigInteger x = BigInteger.valueOf(item);
        BigInteger square = x.multiply(x).multiply(BigInteger.valueOf(69));
        BigInteger sum = square.add(x.multiply(BigInteger.valueOf(48271))).add(BigInteger.valueOf(101));
        return sum.mod(P).intValueExact();
    }

    int most() {
        return k;
    }

    int kept(int basket) {
        return least(basket).size();
    }

    int keptAt(int basket, int index) {
        return entry(least(basket), index);
    }

    int byLeast(int basket) {
        return estimate(least(basket));
    }

    int together(int one, int other) {
        return estimate(leastOfBoth(one, other));
    }

    int common(int one, int other) {
        List<Integer> both = leastOfBoth(one, other);
        List<Integer> counted = new ArrayList<>(both);
        counted.retainAll(least(one));
        counted.retainAll(least(other));
        return part(both, counted.size());
    }

    int without(int one, int other) {
        List<Integer> both = leastOfBoth(one, other);
        List<Integer> counted = new ArrayList<>(both);
        counted.removeAll(least(other));
        return part(both, counted.size());
    }

    int register(int basket, int register) {
        return entry(registers(of(basket).keySet()), register);
    }

    long byRegisters(int basket) {
        return byRegisters(of(basket).keySet());
    }

    long recent(int basket, int ticks) {
        Map<Integer, Integer> asked = of(basket);
        legal(ticks >= 1 && ticks <= 100000);
        Set<Integer> items = new HashSet<>();
        asked.forEach((item, date) -> {
            if (date > clock - ticks) {
                items.add(item);
            }
        });
        return byRegisters(items);
    }

    int level(int basket) {
        for (int level = 0; level < 24; level++) {
            if (thinned(basket, level).size() <= 16) {
                return level;
            }
        }
        return 24;
    }

    int sampled(int basket) {
        return thinned(basket, level(basket)).size();
    }

    int sampledAt(int basket, int index) {
        return entry(thinned(basket, level(basket)), index);
    }

    int bySample(int basket) {
        return sampled(basket) * (1 << level(basket));
    }

    private Map<Integer, Integer> of(int basket) {
        if (basket < 0 || basket >= BASKETS) {
            throw new IndexOutOfBoundsException();
        }
        return dates.get(basket);
    }

    private static void legal(boolean right) {
        if (!right) {
            throw new IllegalArgumentException();
        }
    }

    private static int entry(List<Integer> list, int index) {
        if (index < 0 || index >= list.size()) {
            throw new IndexOutOfBoundsException();
        }
        return list.get(index);
    }

    private List<Integer> least(int basket) {
        TreeSet<Integer> hashes = new TreeSet<>();
        of(basket).keySet().forEach(item -> hashes.add(hash(item)));
        return firstOf(hashes);
    }

    private List<Integer> leastOfBoth(int one, int other) {
        TreeSet<Integer> hashes = new TreeSet<>(least(one));
        hashes.addAll(least(other));
        return firstOf(hashes);
    }

    private List<Integer> firstOf(TreeSet<Integer> hashes) {
        List<Integer> rising = new ArrayList<>(hashes);
        return rising.subList(0, Math.min(k, rising.size()));
    }

    private int estimate(List<Integer> least) {
        if (least.size() < k) {
            return least.size();
        }
        BigInteger greatest = BigInteger.valueOf(least.get(k - 1));
        return P.multiply(BigInteger.valueOf(k - 1)).divide(greatest).intValueExact();
    }

    private int part(List<Integer> least, int many) {
        return least.isEmpty() ? 0 : Math.toIntExact((long) estimate(least) * many / least.size());
    }

    private List<Integer> registers(Set<Integer> items) {
        int[] registers = new int[16];
        for (int item : items) {
            int hash = hash(item);
            int quotient = hash / 16;
            int rank = quotient == 0 ? 21 : 1;
            while (quotient != 0 && quotient % 2 == 0) {
                quotient /= 2;
                rank++;
            }
            registers[hash % 16] = Math.max(registers[hash % 16], rank);
        }
        List<Integer> list = new ArrayList<>();
        for (int register : registers) {
            list.add(register);
        }
        return list;
    }

    private long byRegisters(Set<Integer> items) {
        long sum = 0;
        int empties = 0;
        for (int register : registers(items)) {
            sum += 16777216 / (1L << register);
            empties += register == 0 ? 1 : 0;
        }
        long estimate = 673L * 256 * 16777216 / sum;
        return estimate <= 40000 && empties != 0 ? TABLE[empties] : estimate;
    }

    private List<Integer> thinned(int basket, int level) {
        List<Integer> items = new ArrayList<>();
        for (int item : of(basket).keySet()) {
            if (hash(item) % (1 << level) == 0) {
                items.add(item);
            }
        }
        return items;
    }
}
