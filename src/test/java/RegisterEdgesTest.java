import java.util.ArrayList;
import java.util.List;

/** The boundary cases of promises 19 to 21, each sentence with a test of its own. */
public final class RegisterEdgesTest {
    private static final Check CHECK = new Check("RegisterEdgesTest");
    private static final int HIGHEST_RANK = 17;

    /** What the document's table says for each number of registers that are 0; entry 0 is not used. */
    private static final long[] TABLE = {
        -1, 44361, 33271, 26784, 22181, 18610, 15693, 13227, 11090, 9206, 7520, 5995, 4603, 3322, 2137, 1033, 0
    };

    public static void main(String[] args) {
        register();
        byRegisters();
        byRegistersAtTheTablesEnd();
        recentInside();
        recentEstimates();
        CHECK.promises(19, 21);
        CHECK.end();
    }

    private static void register() {
        CHECK.holds(19, "basket: 0 to 5", () -> {
            int[] items = Items.array(Items.ofRank(3, 1));
            for (int basket = 0; basket < 6; basket++) {
                DistinctDale x = new DistinctDale(2);
                x.add(basket, items[basket]);
                for (int other = 0; other < 6; other++) {
                    CHECK.due("register(" + other + ", 3)", x.register(other, 3), other == basket ? 1 : 0);
                }
            }
        });
        CHECK.holds(19, "0 if it has none", () -> {
            DistinctDale x = new DistinctDale(2);
            for (int register = 0; register < 16; register++) {
                CHECK.due("register(0, " + register + ")", x.register(0, register), 0);
            }
            x.addLine(0, 0, 1, 60);
            x.empty(0);
            for (int register = 0; register < 16; register++) {
                CHECK.due("register(0, " + register + ") of an emptied one", x.register(0, register), 0);
            }
        });
        CHECK.holds(19, "register: 0 to 15, and every rank that an item has there", () -> {
            for (int register = 0; register < 16; register++) {
                for (int rank = 1; rank <= HIGHEST_RANK; rank++) {
                    List<Integer> items = Items.ofRank(register, rank);
                    if (!items.isEmpty()) {
                        oneRegister(register, rank, items.get(items.size() - 1));
                    }
                }
            }
        });
        CHECK.holds(19, "the greatest rank of its items, in whatever order they come", () -> {
            for (int register = 0; register < 16; register++) {
                DistinctDale x = new DistinctDale(2);
                int[] ranks = {2, 1, 3, 3, 7, 4, 10, 9};
                int greatest = 0;
                for (int rank : ranks) {
                    x.add(0, Items.ofRank(register, rank).get(0));
                    greatest = Math.max(greatest, rank);
                    CHECK.due("register(0, " + register + ") behind " + rank, x.register(0, register), greatest);
                }
            }
        });
        CHECK.holds(19, "the least rank is 1, the greatest that an item has is 17", () -> {
            DistinctDale x = new DistinctDale(2);
            int item = Items.ofRank(4, 17).get(0);
            CHECK.due("the hash of " + item, x.hash(item), Items.hash(item));
            CHECK.due("its remainder by 16", Items.hash(item) % 16, 4);
            CHECK.due("2 to the power of 16 divides the quotient", Items.hash(item) / 16 % 65536, 0);
            x.add(0, item);
            CHECK.due("register(0, 4)", x.register(0, 4), 17);
            x.add(1, 1);
            CHECK.due("hash(1)", x.hash(1), 48441);
            CHECK.due("register(1, 9), 48441 divided by 16 is 3027", x.register(1, 9), 1);
        });
        CHECK.holds(19, "the low end of its hash divided by 16: the remainder does not count", () -> {
            // The hash of item 0 is 101: its quotient is 6, its remainder 5.
            DistinctDale x = new DistinctDale(2);
            x.add(0, 0);
            CHECK.due("register(0, 5)", x.register(0, 5), 2);
            // And here the remainder is 0, the quotient odd.
            int item = Items.ofRank(0, 1).get(0);
            x.add(1, item);
            CHECK.due("the remainder of the hash of " + item + " by 32", Items.hash(item) % 32, 16);
            CHECK.due("register(1, 0)", x.register(1, 0), 1);
        });
    }

    private static void oneRegister(int register, int rank, int item) {
        DistinctDale x = new DistinctDale(2);
        x.add(0, item);
        for (int asked = 0; asked < 16; asked++) {
            CHECK.due("item " + item + ", register(0, " + asked + ")", x.register(0, asked), asked == register ? rank : 0);
        }
    }

    private static void byRegisters() {
        CHECK.holds(20, "basket: 0 to 5", () -> {
            DistinctDale x = new DistinctDale(2);
            for (int basket = 0; basket < 6; basket++) {
                for (int register = 0; register <= basket; register++) {
                    x.add(basket, Items.ofRank(register, 1).get(basket));
                }
            }
            for (int basket = 0; basket < 6; basket++) {
                CHECK.due("byRegisters(" + basket + ")", x.byRegisters(basket), TABLE[15 - basket]);
            }
        });
        CHECK.holds(20, "a basket without items: entry 16", () -> {
            DistinctDale x = new DistinctDale(2);
            CHECK.due("a new one", x.byRegisters(0), 0);
            x.addLine(0, 0, 1, 60);
            x.empty(0);
            CHECK.due("an emptied one", x.byRegisters(0), 0);
        });
        for (int z = 1; z <= 16; z++) {
            int zeros = z;
            CHECK.holds(20, "entry " + z + " of this table, whichever registers are 0", () -> {
                for (int firstZero = 0; firstZero < 16; firstZero++) {
                    DistinctDale x = new DistinctDale(2);
                    Check.addAll(x, 0, filled(16 - zeros, firstZero + zeros, 1));
                    CHECK.due("those from " + firstZero + " on", x.byRegisters(0), TABLE[zeros]);
                }
            });
        }
        CHECK.holds(20, "z is 0: the estimate itself, though it is below 40000", () -> {
            DistinctDale x = new DistinctDale(2);
            Check.addAll(x, 0, filled(16, 0, 1));
            CHECK.due("all of rank 1", x.byRegisters(0), 673L * 256 / 8);
            x.add(0, Items.ofRank(0, 2).get(0));
            CHECK.due("one of rank 2", x.byRegisters(0), 673L * 256 * 16777216 / (15L * 8388608 + 4194304));
        });
        CHECK.holds(20, "the estimate itself, above 40000, though z is not 0", () -> {
            for (int zeros = 1; zeros <= 4; zeros++) {
                DistinctDale x = new DistinctDale(2);
                Check.addAll(x, 0, filled(16 - zeros, zeros, 10));
                long sum = zeros * 16777216L + (16 - zeros) * 16384L;
                CHECK.due(zeros + " are 0, the others 10", x.byRegisters(0), 673L * 256 * 16777216 / sum);
            }
        });
        CHECK.holds(20, "at most 40000 with high ranks: the table, once five are 0", () -> {
            for (int zeros = 5; zeros <= 15; zeros++) {
                DistinctDale x = new DistinctDale(2);
                Check.addAll(x, 0, filled(16 - zeros, zeros, 10));
                CHECK.due(zeros + " are 0, the others 10", x.byRegisters(0), TABLE[zeros]);
            }
        });
        CHECK.holds(20, "the greatest estimate: every register of the highest rank there", () -> {
            DistinctDale x = new DistinctDale(2);
            long sum = 0;
            for (int register = 0; register < 16; register++) {
                int rank = HIGHEST_RANK;
                while (Items.ofRank(register, rank).isEmpty()) {
                    rank--;
                }
                x.add(0, Items.ofRank(register, rank).get(0));
                sum += 16777216 >> rank;
            }
            CHECK.due("byRegisters(0)", x.byRegisters(0), 673L * 256 * 16777216 / sum);
            CHECK.due("byRegisters(0), beyond the greatest int before it is divided", x.byRegisters(0), 93701795);
        });
    }

    /** So many registers from one on, round behind the last one, have an item of a rank each. */
    private static int[] filled(int many, int first, int rank) {
        List<Integer> items = new ArrayList<>();
        for (int i = 0; i < many; i++) {
            items.add(Items.ofRank((first + i) % 16, rank).get(0));
        }
        return Items.array(items);
    }

    private static void byRegistersAtTheTablesEnd() {
        // These were searched for: their estimates are 39999, 40000 and 40001.
        int[] below = {2, 13, 17, 19, 261, 262, 352, 899, 1608, 2224, 3137, 33639, 50047, 93353};
        int[] just = {1, 2, 13, 78, 257, 261, 262, 329, 338, 492, 899, 2224, 4480, 10182, 43231};
        int[] above = {2, 12, 30, 96, 303, 694, 6900, 13819, 46841, 50186, 51959, 56820, 69910};
        CHECK.holds(20, "at most 40000: 39999", () -> tablesEnd(below, 39999, 2, 33271));
        CHECK.holds(20, "at most 40000: 40000", () -> tablesEnd(just, 40000, 1, 44361));
        CHECK.holds(20, "at most 40000: 40001 is above", () -> tablesEnd(above, 40001, 3, 40001));
        CHECK.holds(21, "at most 40000: 39999, 40000 and 40001", () -> {
            DistinctDale x = new DistinctDale(2);
            Check.addAll(x, 0, below);
            Check.addAll(x, 1, just);
            Check.addAll(x, 2, above);
            CHECK.due("39999", x.recent(0, 1), 33271);
            CHECK.due("40000", x.recent(1, 1), 44361);
            CHECK.due("40001", x.recent(2, 1), 40001);
        });
    }

    private static void tablesEnd(int[] items, long estimate, int zeros, long due) {
        DistinctDale x = new DistinctDale(2);
        Check.addAll(x, 0, items);
        long sum = 0;
        int empties = 0;
        for (int register : WholeState.registersOf(x, 0)) {
            sum += 16777216 >> register;
            empties += register == 0 ? 1 : 0;
        }
        CHECK.due("the estimate ahead of the table", 673L * 256 * 16777216 / sum, estimate);
        CHECK.due("how many are 0", empties, zeros);
        CHECK.due("byRegisters(0)", x.byRegisters(0), due);
    }

    private static void recentInside() {
        CHECK.holds(21, "basket: 0 to 5", () -> {
            DistinctDale x = new DistinctDale(2);
            x.pass(10);
            for (int basket = 0; basket < 6; basket++) {
                Check.addAll(x, basket, filled(basket + 1, 0, 1));
            }
            for (int basket = 0; basket < 6; basket++) {
                CHECK.due("recent(" + basket + ", 1)", x.recent(basket, 1), TABLE[15 - basket]);
            }
        });
        for (int window : new int[] {1, 2, 3, 999, 1000, 1001, 5000, 99999, 100000}) {
            CHECK.holds(21, "ticks: " + window + ", and an item that came at tick 0", () -> dateAtEdge(0, window));
            CHECK.holds(21, "ticks: " + window + ", and an item that came at tick 7", () -> dateAtEdge(7, window));
        }
        CHECK.holds(21, "more ticks than the clock has counted: all items", () -> {
            DistinctDale x = new DistinctDale(2);
            x.add(0, 1);
            for (int ticks : new int[] {1, 2, 99999, 100000}) {
                CHECK.due("at tick 0, of " + ticks, x.recent(0, ticks), 1033);
            }
            x.pass(4);
            CHECK.due("at tick 4, of 4", x.recent(0, 4), 0);
            CHECK.due("at tick 4, of 5", x.recent(0, 5), 1033);
            CHECK.due("at tick 4, of 100000", x.recent(0, 100000), 1033);
        });
        CHECK.holds(21, "with those items alone: of three dates", () -> {
            DistinctDale x = new DistinctDale(2);
            Check.addAll(x, 0, filled(4, 0, 1));
            x.pass(1);
            Check.addAll(x, 0, filled(3, 4, 1));
            x.pass(1);
            Check.addAll(x, 0, filled(2, 7, 1));
            CHECK.due("one tick", x.recent(0, 1), TABLE[14]);
            CHECK.due("two ticks", x.recent(0, 2), TABLE[11]);
            CHECK.due("three ticks", x.recent(0, 3), TABLE[7]);
            CHECK.due("four ticks", x.recent(0, 4), TABLE[7]);
            x.pass(1);
            CHECK.due("one tick, a tick later", x.recent(0, 1), 0);
            CHECK.due("two ticks, a tick later", x.recent(0, 2), TABLE[14]);
        });
        CHECK.holds(21, "as late as 512 calls bring the clock", () -> {
            DistinctDale x = new DistinctDale(2);
            x.add(0, 1);
            for (int call = 0; call < 509; call++) {
                x.pass(1000);
            }
            x.add(0, 2);
            CHECK.due("recent(0, 100000)", x.recent(0, 100000), 1033);
        });
    }

    /** An item whose date is d is within t ticks as long as the clock is at most d + t - 1. */
    private static void dateAtEdge(int date, int window) {
        DistinctDale x = new DistinctDale(2);
        passAll(x, date);
        x.add(0, 1);
        passAll(x, window - 1);
        CHECK.due("just inside, at tick " + x.clock(), x.recent(0, window), 1033);
        if (window > 1) {
            CHECK.due("one tick fewer, at tick " + x.clock(), x.recent(0, window - 1), 0);
        }
        x.pass(1);
        CHECK.due("just outside, at tick " + x.clock(), x.recent(0, window), 0);
        if (window < 100000) {
            CHECK.due("one tick more, at tick " + x.clock(), x.recent(0, window + 1), 1033);
        }
    }

    private static void passAll(DistinctDale x, int ticks) {
        for (int left = ticks; left > 0; left -= 1000) {
            x.pass(Math.min(left, 1000));
        }
    }

    private static void recentEstimates() {
        CHECK.holds(21, "a basket without items", () -> {
            DistinctDale x = new DistinctDale(2);
            CHECK.due("a new one, of 1", x.recent(0, 1), 0);
            CHECK.due("a new one, of 100000", x.recent(0, 100000), 0);
            x.addLine(0, 0, 1, 60);
            x.empty(0);
            CHECK.due("an emptied one", x.recent(0, 100000), 0);
        });
        CHECK.holds(21, "no item of these ticks: entry 16", () -> {
            DistinctDale x = new DistinctDale(2);
            x.addLine(0, 0, 1, 60);
            x.pass(1);
            CHECK.due("recent(0, 1)", x.recent(0, 1), 0);
            CHECK.due("recent(0, 2)", x.recent(0, 2), x.byRegisters(0));
        });
        CHECK.holds(21, "every entry of the table, beside older items", () -> {
            for (int zeros = 0; zeros <= 16; zeros++) {
                DistinctDale x = new DistinctDale(2);
                Check.addAll(x, 0, filled(16, 0, 9));
                x.pass(1);
                Check.addAll(x, 0, filled(16 - zeros, zeros, 1));
                CHECK.due(zeros + " registers are 0", x.recent(0, 1), zeros == 0 ? 21536 : TABLE[zeros]);
            }
        });
        CHECK.holds(21, "the date is that at which it came last: add", () -> {
            DistinctDale x = new DistinctDale(2);
            x.add(0, 1);
            x.pass(1);
            x.add(0, 1);
            CHECK.due("recent(0, 1)", x.recent(0, 1), 1033);
        });
        CHECK.holds(21, "the date is that at which it came last: addLine", () -> {
            DistinctDale x = new DistinctDale(2);
            x.add(0, 1);
            x.pass(1);
            x.addLine(0, 0, 1, 2);
            CHECK.due("recent(0, 1)", x.recent(0, 1), 2137);
        });
        CHECK.holds(21, "the later one of both dates: merge", () -> {
            DistinctDale x = new DistinctDale(2);
            Check.addAll(x, 0, 1, 2);
            Check.addAll(x, 1, 1, 4);
            x.pass(1);
            x.add(1, 1);
            x.merge(1, 0);
            CHECK.due("later in the first", x.recent(0, 1), 1033);
            x.add(0, 4);
            x.merge(1, 0);
            CHECK.due("later in the second", x.recent(0, 1), 2137);
            x.merge(0, 0);
            CHECK.due("itself", x.recent(0, 1), 2137);
            x.merge(0, 5);
            CHECK.due("a basket without items", x.recent(5, 1), 2137);
            CHECK.due("it has older ones too", x.recent(5, 2), 3322);
        });
    }
}
