/**
 * Every call that the document refuses, promise by promise: it throws just the exception that is named
 * first, and changes nothing: all that can be asked is as of an object that has not had the call.
 */
public final class RefusalTest {
    private static final Check CHECK = new Check("RefusalTest");

    private static final Class<? extends RuntimeException> NO_SUCH = IndexOutOfBoundsException.class;
    private static final Class<? extends RuntimeException> ILLEGAL = IllegalArgumentException.class;

    /** So many calls prepared() makes. */
    private static final int SETUP_CALLS = 12;

    private static final int[] WRONG_BASKETS = {-1, 6, 7, -6, 100, Integer.MIN_VALUE, Integer.MAX_VALUE};
    private static final int[] WRONG_ITEMS = {-1, 100000, 100001, Integer.MIN_VALUE, Integer.MAX_VALUE};

    /** First, step and many of lines that are refused, all for one reason alone but the last three. */
    private static final int[][] WRONG_LINES = {
        {-1, 1, 1}, {-1, 1, 60}, {-58941, 999, 60}, {100000, 1, 1},
        {50, 0, 1}, {50, 0, 60}, {50, -1, 2}, {50, -1, 1}, {50, 1000, 1}, {50, 1000, 60},
        {50, 1, 0}, {50, 1, -1}, {50, 1, 61}, {50, 999, 61},
        {99999, 1, 2}, {99941, 1, 60}, {41059, 999, 60}, {99001, 999, 2}, {99882, 2, 60},
        {Integer.MIN_VALUE, 1, 1}, {Integer.MAX_VALUE, 1, 1}, {50, Integer.MIN_VALUE, 1}, {50, Integer.MAX_VALUE, 1},
        {50, 1, Integer.MIN_VALUE}, {50, 1, Integer.MAX_VALUE},
        // Reckoned in an int, the last items of these would be 7 * 16, 5 and 1.
        {0, 72796058, 60}, {5, 1 << 30, 5}, {5, 2, Integer.MAX_VALUE}
    };

    /** A call whose answer is of no interest, since there must be none. */
    private interface Refused {
        void on(DistinctDale x);
    }

    public static void main(String[] args) {
        add();
        addLine();
        emptyAndMerge();
        pass();
        plainSets();
        hash();
        leastHashes();
        registers();
        recent();
        sample();
        CHECK.due("more calls than an object is good for", SETUP_CALLS + 1 + WholeState.CALLS > 512, false);
        afterwards();
        CHECK.end();
    }

    /** Baskets 0 and 1 have items of two ticks, 2 has more than its sample, 3 and 4 have none, 5 has two. */
    private static DistinctDale prepared() {
        DistinctDale x = new DistinctDale(3);
        x.pass(2);
        x.addLine(0, 0, 7, 9);
        x.addLine(1, 14, 7, 6);
        x.addLine(2, 3, 1, 60);
        x.addLine(4, 3, 1, 5);
        x.pass(1);
        x.addLine(0, 21, 14, 4);
        x.addLine(1, 99990, 2, 5);
        x.empty(4);
        Check.addAll(x, 5, 0, 99999);
        x.pass(1);
        return x;
    }

    private static void refuse(int promise, String call, Class<? extends RuntimeException> due, Refused body) {
        String[] kinds = {"changes nothing", "on a new object"};
        for (String kind : kinds) {
            CHECK.holds(promise, "A call that throws an exception " + kind, () -> {
                boolean isNew = kind.equals(kinds[1]);
                DistinctDale x = isNew ? new DistinctDale(3) : prepared();
                DistinctDale untouched = isNew ? new DistinctDale(3) : prepared();
                String answer = Check.answerOf(() -> {
                    body.on(x);
                    return 0;
                });
                CHECK.text(call, answer, "throws " + due.getName());
                CHECK.text("what is asked behind " + call, WholeState.of(x), WholeState.of(untouched));
            });
        }
    }

    private static void add() {
        for (int basket : WRONG_BASKETS) {
            refuse(2, "add(" + basket + ", 5)", NO_SUCH, x -> x.add(basket, 5));
            for (int item : WRONG_ITEMS) {
                refuse(2, "add(" + basket + ", " + item + "), both wrong", NO_SUCH, x -> x.add(basket, item));
            }
        }
        for (int item : WRONG_ITEMS) {
            refuse(2, "add(0, " + item + ")", ILLEGAL, x -> x.add(0, item));
            refuse(2, "add(5, " + item + ")", ILLEGAL, x -> x.add(5, item));
        }
    }

    private static void addLine() {
        for (int basket : WRONG_BASKETS) {
            refuse(3, "addLine(" + basket + ", 5, 1, 3)", NO_SUCH, x -> x.addLine(basket, 5, 1, 3));
        }
        for (int[] line : WRONG_LINES) {
            String of = ", " + line[0] + ", " + line[1] + ", " + line[2] + ")";
            refuse(3, "addLine(0" + of, ILLEGAL, x -> x.addLine(0, line[0], line[1], line[2]));
            refuse(3, "addLine(5" + of, ILLEGAL, x -> x.addLine(5, line[0], line[1], line[2]));
            refuse(3, "addLine(6" + of + ", both wrong", NO_SUCH, x -> x.addLine(6, line[0], line[1], line[2]));
            refuse(3, "addLine(-1" + of + ", both wrong", NO_SUCH, x -> x.addLine(-1, line[0], line[1], line[2]));
        }
    }

    private static void emptyAndMerge() {
        for (int basket : WRONG_BASKETS) {
            refuse(4, "empty(" + basket + ")", NO_SUCH, x -> x.empty(basket));
            refuse(5, "merge(" + basket + ", 0)", NO_SUCH, x -> x.merge(basket, 0));
            refuse(5, "merge(0, " + basket + ")", NO_SUCH, x -> x.merge(0, basket));
            refuse(5, "merge(" + basket + ", 3), an empty one", NO_SUCH, x -> x.merge(basket, 3));
            refuse(5, "merge(3, " + basket + "), an empty one", NO_SUCH, x -> x.merge(3, basket));
            refuse(5, "merge(" + basket + ", " + basket + ")", NO_SUCH, x -> x.merge(basket, basket));
        }
    }

    private static void pass() {
        for (int ticks : new int[] {0, -1, -1000, 1001, 1002, Integer.MIN_VALUE, Integer.MAX_VALUE}) {
            refuse(6, "pass(" + ticks + ")", ILLEGAL, x -> x.pass(ticks));
        }
    }

    private static void plainSets() {
        for (int basket : WRONG_BASKETS) {
            refuse(8, "plain(" + basket + ")", NO_SUCH, x -> x.plain(basket));
            refuse(9, "plainCommon(" + basket + ", 0)", NO_SUCH, x -> x.plainCommon(basket, 0));
            refuse(9, "plainCommon(0, " + basket + ")", NO_SUCH, x -> x.plainCommon(0, basket));
            refuse(9, "plainCommon(" + basket + ", " + basket + ")", NO_SUCH, x -> x.plainCommon(basket, basket));
            refuse(10, "dateOf(" + basket + ", 0)", NO_SUCH, x -> x.dateOf(basket, 0));
            for (int item : WRONG_ITEMS) {
                refuse(10, "dateOf(" + basket + ", " + item + "), both wrong", NO_SUCH, x -> x.dateOf(basket, item));
            }
        }
        for (int item : WRONG_ITEMS) {
            refuse(10, "dateOf(0, " + item + ")", ILLEGAL, x -> x.dateOf(0, item));
            refuse(10, "dateOf(5, " + item + ")", ILLEGAL, x -> x.dateOf(5, item));
        }
    }

    private static void hash() {
        for (int item : WRONG_ITEMS) {
            refuse(11, "hash(" + item + ")", ILLEGAL, x -> x.hash(item));
        }
    }

    private static void leastHashes() {
        for (int basket : WRONG_BASKETS) {
            refuse(13, "kept(" + basket + ")", NO_SUCH, x -> x.kept(basket));
            refuse(14, "keptAt(" + basket + ", 0)", NO_SUCH, x -> x.keptAt(basket, 0));
            refuse(14, "keptAt(" + basket + ", -1)", NO_SUCH, x -> x.keptAt(basket, -1));
            refuse(15, "byLeast(" + basket + ")", NO_SUCH, x -> x.byLeast(basket));
            refuse(16, "together(" + basket + ", 0)", NO_SUCH, x -> x.together(basket, 0));
            refuse(16, "together(0, " + basket + ")", NO_SUCH, x -> x.together(0, basket));
            refuse(17, "common(" + basket + ", 0)", NO_SUCH, x -> x.common(basket, 0));
            refuse(17, "common(0, " + basket + ")", NO_SUCH, x -> x.common(0, basket));
            refuse(18, "without(" + basket + ", 0)", NO_SUCH, x -> x.without(basket, 0));
            refuse(18, "without(0, " + basket + ")", NO_SUCH, x -> x.without(0, basket));
            refuse(16, "together(" + basket + ", " + basket + ")", NO_SUCH, x -> x.together(basket, basket));
            refuse(17, "common(" + basket + ", " + basket + ")", NO_SUCH, x -> x.common(basket, basket));
            refuse(18, "without(" + basket + ", " + basket + ")", NO_SUCH, x -> x.without(basket, basket));
        }
        for (int index : new int[] {-1, 3, 4, 32, 60, Integer.MIN_VALUE, Integer.MAX_VALUE}) {
            refuse(14, "keptAt(2, " + index + ")", NO_SUCH, x -> x.keptAt(2, index));
        }
        refuse(14, "keptAt(5, 2) of two", NO_SUCH, x -> x.keptAt(5, 2));
        refuse(14, "keptAt(3, 0) of none", NO_SUCH, x -> x.keptAt(3, 0));
        refuse(14, "keptAt(4, 0) of an emptied one", NO_SUCH, x -> x.keptAt(4, 0));
    }

    private static void registers() {
        for (int basket : WRONG_BASKETS) {
            refuse(19, "register(" + basket + ", 0)", NO_SUCH, x -> x.register(basket, 0));
            refuse(19, "register(" + basket + ", 16)", NO_SUCH, x -> x.register(basket, 16));
            refuse(20, "byRegisters(" + basket + ")", NO_SUCH, x -> x.byRegisters(basket));
        }
        for (int register : new int[] {-1, 16, 17, -16, Integer.MIN_VALUE, Integer.MAX_VALUE}) {
            refuse(19, "register(0, " + register + ")", NO_SUCH, x -> x.register(0, register));
            refuse(19, "register(3, " + register + ") of none", NO_SUCH, x -> x.register(3, register));
        }
    }

    private static void recent() {
        int[] wrongTicks = {0, -1, -100000, 100001, 100002, Integer.MIN_VALUE, Integer.MAX_VALUE};
        for (int ticks : wrongTicks) {
            refuse(21, "recent(0, " + ticks + ")", ILLEGAL, x -> x.recent(0, ticks));
            refuse(21, "recent(3, " + ticks + ") of none", ILLEGAL, x -> x.recent(3, ticks));
        }
        for (int basket : WRONG_BASKETS) {
            refuse(21, "recent(" + basket + ", 1)", NO_SUCH, x -> x.recent(basket, 1));
            for (int ticks : wrongTicks) {
                refuse(21, "recent(" + basket + ", " + ticks + "), both wrong", NO_SUCH, x -> x.recent(basket, ticks));
            }
        }
    }

    private static void sample() {
        for (int basket : WRONG_BASKETS) {
            refuse(22, "level(" + basket + ")", NO_SUCH, x -> x.level(basket));
            refuse(23, "sampled(" + basket + ")", NO_SUCH, x -> x.sampled(basket));
            refuse(24, "sampledAt(" + basket + ", 0)", NO_SUCH, x -> x.sampledAt(basket, 0));
            refuse(24, "sampledAt(" + basket + ", -1)", NO_SUCH, x -> x.sampledAt(basket, -1));
            refuse(25, "bySample(" + basket + ")", NO_SUCH, x -> x.bySample(basket));
        }
        for (int index : new int[] {-1, 16, 17, 59, 60, Integer.MIN_VALUE, Integer.MAX_VALUE}) {
            refuse(24, "sampledAt(2, " + index + ")", NO_SUCH, x -> x.sampledAt(2, index));
        }
        refuse(24, "sampledAt(5, 2) of two", NO_SUCH, x -> x.sampledAt(5, 2));
        refuse(24, "sampledAt(3, 0) of none", NO_SUCH, x -> x.sampledAt(3, 0));
        refuse(24, "sampledAt(4, 0) of an emptied one", NO_SUCH, x -> x.sampledAt(4, 0));
    }

    /** Right calls behind refused ones answer as if those had not been. */
    private static void afterwards() {
        CHECK.holds(2, "A call that throws an exception changes nothing: the same item comes then", () -> {
            DistinctDale x = new DistinctDale(3);
            CHECK.outOfBounds("add(6, 8)", x, () -> x.add(6, 8) ? 1 : 0);
            CHECK.due("add(0, 8)", x.add(0, 8), true);
            CHECK.due("dateOf(0, 8)", x.dateOf(0, 8), 0);
        });
        CHECK.holds(3, "A call that throws an exception changes nothing: none of a refused line has come", () -> {
            DistinctDale x = new DistinctDale(3);
            CHECK.illegal("addLine(0, 99941, 1, 60)", x, () -> x.addLine(0, 99941, 1, 60));
            CHECK.due("addLine(0, 99941, 1, 59)", x.addLine(0, 99941, 1, 59), 59);
        });
        CHECK.holds(3, "A call that throws an exception changes nothing: nor has it come again", () -> {
            DistinctDale x = new DistinctDale(3);
            x.addLine(0, 99941, 1, 59);
            x.pass(1);
            CHECK.illegal("addLine(0, 99941, 1, 60)", x, () -> x.addLine(0, 99941, 1, 60));
            CHECK.due("dateOf(0, 99941)", x.dateOf(0, 99941), 0);
            CHECK.due("dateOf(0, 99999)", x.dateOf(0, 99999), 0);
        });
        CHECK.holds(6, "A call that throws an exception changes nothing: the clock goes on from where it was", () -> {
            DistinctDale x = new DistinctDale(3);
            x.pass(1000);
            CHECK.illegal("pass(1001)", x, () -> x.pass(1001));
            CHECK.due("pass(1)", x.pass(1), 1001);
        });
        CHECK.holds(5, "A call that throws an exception changes nothing: the right basket of two is not merged", () -> {
            DistinctDale x = new DistinctDale(3);
            x.addLine(0, 0, 1, 9);
            CHECK.outOfBounds("merge(0, 6)", x, () -> x.merge(0, 6));
            CHECK.due("merge(0, 5)", x.merge(0, 5), 9);
        });
    }
}
