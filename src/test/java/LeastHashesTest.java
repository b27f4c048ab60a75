import java.util.List;

/** Promises 12 to 18: most, kept, keptAt, byLeast, together, common and without. */
public final class LeastHashesTest {
    private static final Check CHECK = new Check("LeastHashesTest");

    // The items with the least hashes of all but item 0, whose hash is 101; and one with a great hash.
    private static final int A136 = 73985;
    private static final int B182 = 43532;
    private static final int C465 = 90376;
    private static final int D666 = 12617;
    private static final int E243181 = 5;

    public static void main(String[] args) {
        most();
        kept();
        keptAt();
        byLeast();
        together();
        common();
        commonOfDivisionsRoundedTwice();
        without();
        refused();
        CHECK.end();
    }

    private static void most() {
        CHECK.due("12: most() for 9", new DistinctDale(9).most(), 9);
        CHECK.due("12: most() for 1", new DistinctDale(1).most(), 2);
        CHECK.due("12: most() for 40", new DistinctDale(40).most(), 32);
    }

    private static void kept() {
        DistinctDale x = new DistinctDale(3);
        CHECK.due("13: an empty one", x.kept(0), 0);
        x.add(0, A136);
        CHECK.due("13: one item", x.kept(0), 1);
        x.add(0, A136);
        CHECK.due("13: the same one again", x.kept(0), 1);
        Check.addAll(x, 0, B182, C465);
        CHECK.due("13: k items", x.kept(0), 3);
        x.addLine(0, 0, 1, 60);
        CHECK.due("13: many items", x.kept(0), 3);
        CHECK.due("13: another basket", x.kept(5), 0);
        CHECK.outOfBounds("13: kept(-1)", x, () -> x.kept(-1));
        CHECK.outOfBounds("13: kept(6)", x, () -> x.kept(6));
    }

    private static void keptAt() {
        DistinctDale x = new DistinctDale(3);
        Check.addAll(x, 0, E243181, B182);
        CHECK.due("14: fewer than k", Check.keptBy(x, 0), List.of(182, 243181));
        CHECK.outOfBounds("14: keptAt(0, 2) of two", x, () -> x.keptAt(0, 2));
        Check.addAll(x, 0, D666, A136);
        CHECK.due("14: more than k", Check.keptBy(x, 0), List.of(136, 182, 666));
        x.add(0, C465);
        CHECK.due("14: one comes between", Check.keptBy(x, 0), List.of(136, 182, 465));
        x.add(0, 0);
        CHECK.due("14: the least one of all comes", Check.keptBy(x, 0), List.of(101, 136, 182));
        x.add(0, E243181);
        CHECK.due("14: a great one comes", Check.keptBy(x, 0), List.of(101, 136, 182));
        CHECK.outOfBounds("14: keptAt(0, 3)", x, () -> x.keptAt(0, 3));
        CHECK.outOfBounds("14: keptAt(0, -1)", x, () -> x.keptAt(0, -1));
        CHECK.outOfBounds("14: keptAt(0, greatest int)", x, () -> x.keptAt(0, Integer.MAX_VALUE));
        CHECK.outOfBounds("14: keptAt(1, 0), which is empty", x, () -> x.keptAt(1, 0));
        CHECK.outOfBounds("14: keptAt(6, 0)", x, () -> x.keptAt(6, 0));
        CHECK.outOfBounds("14: keptAt(-1, 0)", x, () -> x.keptAt(-1, 0));
    }

    private static void byLeast() {
        int[][] due = {{2, 92182}, {3, 72160}, {4, 75573}, {5, 4}, {32, 4}};
        for (int[] pair : due) {
            DistinctDale x = new DistinctDale(pair[0]);
            CHECK.due("15: an empty one, k " + pair[0], x.byLeast(3), 0);
            Check.addAll(x, 3, D666, B182, A136, C465);
            CHECK.due("15: four items, k " + pair[0], x.byLeast(3), pair[1]);
            CHECK.due("15: another basket", x.byLeast(2), 0);
            CHECK.due("15: four items, k " + pair[0] + ", again", x.byLeast(3), pair[1]);
        }
        DistinctDale x = new DistinctDale(5);
        CHECK.outOfBounds("15: byLeast(-1)", x, () -> x.byLeast(-1));
        CHECK.outOfBounds("15: byLeast(6)", x, () -> x.byLeast(6));
    }

    private static void together() {
        DistinctDale x = new DistinctDale(3);
        CHECK.due("16: both empty", x.together(0, 1), 0);
        x.add(0, E243181);
        CHECK.due("16: one empty", x.together(1, 0), 1);
        x.add(1, E243181);
        CHECK.due("16: one item that both have", x.together(0, 1), 1);
        x.add(1, B182);
        CHECK.due("16: two of them", x.together(0, 1), 2);
        x.add(0, D666);
        CHECK.due("16: three of them, the greatest of both", x.together(0, 1), 2L * 16777213 / 243181);
        Check.addAll(x, 0, A136, C465);
        CHECK.due("16: the third of all", x.together(0, 1), 72160);
        CHECK.due("16: the other way round", x.together(1, 0), 72160);
        CHECK.due("16: one with itself", x.together(0, 0), 2L * 16777213 / 666);
    }

    private static void common() {
        DistinctDale x = new DistinctDale(3);
        CHECK.due("17: both empty", x.common(0, 1), 0);
        Check.addAll(x, 0, A136, B182);
        CHECK.due("17: one empty", x.common(0, 1), 0);
        CHECK.due("17: one empty, the other way round", x.common(1, 0), 0);
        CHECK.due("17: fewer than k, one with itself", x.common(0, 0), 2);
        x.add(1, B182);
        CHECK.due("17: fewer than k", x.common(0, 1), 1);
        CHECK.due("17: one item, with itself", x.common(1, 1), 1);
        CHECK.due("17: one item, which the last of L is", x.common(1, 0), 1);
        Check.addAll(x, 1, C465, D666);
        CHECK.due("17: one of the three least", x.common(0, 1), 72160 / 3);
        CHECK.due("17: the other way round", x.common(1, 0), 72160 / 3);
        x.add(0, D666);
        CHECK.due("17: the fourth least does not count", x.common(0, 1), 72160 / 3);
        x.add(0, C465);
        CHECK.due("17: two of three", x.common(0, 1), 2 * 72160 / 3);
        x.add(1, A136);
        CHECK.due("17: three of three", x.common(0, 1), 72160);
    }

    /** The whole number U is multiplied before it is divided, and is rounded before that. */
    private static void commonOfDivisionsRoundedTwice() {
        DistinctDale x = new DistinctDale(4);
        Check.addAll(x, 0, A136, B182, C465);
        Check.addAll(x, 1, A136, B182, D666);
        CHECK.due("17: U", x.together(0, 1), 75573);
        CHECK.due("17: two of four", x.common(0, 1), 37786);
        CHECK.due("18: one of four", x.without(0, 1), 18893);
        x.add(1, C465);
        CHECK.due("17: three of four", x.common(0, 1), 56679);
    }

    private static void without() {
        DistinctDale x = new DistinctDale(3);
        CHECK.due("18: both empty", x.without(0, 1), 0);
        Check.addAll(x, 0, A136, B182);
        CHECK.due("18: the second empty", x.without(0, 1), 2);
        CHECK.due("18: the first empty", x.without(1, 0), 0);
        CHECK.due("18: one with itself", x.without(0, 0), 0);
        x.add(1, B182);
        CHECK.due("18: fewer than k", x.without(0, 1), 1);
        CHECK.due("18: fewer than k, the other way round", x.without(1, 0), 0);
        x.add(1, C465);
        CHECK.due("18: one of three", x.without(0, 1), 72160 / 3);
        CHECK.due("18: one of three, the other way round", x.without(1, 0), 72160 / 3);
        Check.addAll(x, 2, C465, D666);
        CHECK.due("18: two of three", x.without(0, 2), 2 * 72160 / 3);
    }

    private static void refused() {
        DistinctDale x = new DistinctDale(3);
        x.addLine(0, 3, 7, 20);
        int[][] pairs = {{-1, 0}, {0, -1}, {6, 0}, {0, 6}, {6, 6}};
        for (int[] pair : pairs) {
            String of = "(" + pair[0] + ", " + pair[1] + ")";
            CHECK.outOfBounds("16: together" + of, x, () -> x.together(pair[0], pair[1]));
            CHECK.outOfBounds("17: common" + of, x, () -> x.common(pair[0], pair[1]));
            CHECK.outOfBounds("18: without" + of, x, () -> x.without(pair[0], pair[1]));
        }
    }
}
