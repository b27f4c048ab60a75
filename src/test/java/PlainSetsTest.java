/** Promises 8 to 11: plain, plainCommon, dateOf and hash. */
public final class PlainSetsTest {
    private static final Check CHECK = new Check("PlainSetsTest");

    public static void main(String[] args) {
        plain();
        plainCommon();
        dateOf();
        hash();
        hashOfEveryItem();
        CHECK.end();
    }

    private static void plain() {
        DistinctDale x = new DistinctDale(2);
        CHECK.due("8: plain(0), empty", x.plain(0), 0);
        x.addLine(0, 0, 3, 60);
        x.addLine(0, 0, 2, 60);
        CHECK.due("8: plain(0), two lines that cross", x.plain(0), 100);
        x.addLine(5, 7, 1, 1);
        CHECK.due("8: plain(5)", x.plain(5), 1);
        CHECK.due("8: plain(4)", x.plain(4), 0);
        CHECK.outOfBounds("8: plain(-1)", x, () -> x.plain(-1));
        CHECK.outOfBounds("8: plain(6)", x, () -> x.plain(6));
    }

    private static void plainCommon() {
        DistinctDale x = new DistinctDale(2);
        CHECK.due("9: both empty", x.plainCommon(0, 1), 0);
        x.addLine(0, 0, 3, 60);
        CHECK.due("9: one empty", x.plainCommon(0, 1), 0);
        CHECK.due("9: the other empty", x.plainCommon(1, 0), 0);
        x.pass(1);
        x.addLine(1, 0, 2, 60);
        CHECK.due("9: lines that cross", x.plainCommon(0, 1), 20);
        CHECK.due("9: the other way round", x.plainCommon(1, 0), 20);
        CHECK.due("9: one with itself", x.plainCommon(0, 0), 60);
        x.addLine(2, 1, 3, 60);
        CHECK.due("9: nothing in common", x.plainCommon(0, 2), 0);
        x.add(2, 177);
        CHECK.due("9: the last one of a line in common", x.plainCommon(2, 0), 1);
        CHECK.outOfBounds("9: plainCommon(0, 6)", x, () -> x.plainCommon(0, 6));
        CHECK.outOfBounds("9: plainCommon(6, 0)", x, () -> x.plainCommon(6, 0));
        CHECK.outOfBounds("9: plainCommon(-1, 0)", x, () -> x.plainCommon(-1, 0));
        CHECK.outOfBounds("9: plainCommon(0, -1)", x, () -> x.plainCommon(0, -1));
    }

    private static void dateOf() {
        DistinctDale x = new DistinctDale(2);
        CHECK.due("10: nothing there", x.dateOf(0, 0), -1);
        x.add(0, 40);
        x.pass(1000);
        x.addLine(0, 20, 10, 2);
        CHECK.due("10: dateOf(0, 40)", x.dateOf(0, 40), 0);
        CHECK.due("10: dateOf(0, 20)", x.dateOf(0, 20), 1000);
        CHECK.due("10: dateOf(0, 30)", x.dateOf(0, 30), 1000);
        for (int item : new int[] {0, 19, 21, 39, 41, 99999}) {
            CHECK.due("10: dateOf(0, " + item + ")", x.dateOf(0, item), DistinctDale.NONE);
        }
        CHECK.due("10: another basket", x.dateOf(1, 40), DistinctDale.NONE);
        CHECK.outOfBounds("10: dateOf(-1, 40)", x, () -> x.dateOf(-1, 40));
        CHECK.outOfBounds("10: dateOf(6, 40)", x, () -> x.dateOf(6, 40));
        CHECK.outOfBounds("10: dateOf(6, -1)", x, () -> x.dateOf(6, -1));
        CHECK.illegal("10: dateOf(0, -1)", x, () -> x.dateOf(0, -1));
        CHECK.illegal("10: dateOf(0, 100000)", x, () -> x.dateOf(0, 100000));
    }

    private static void hash() {
        DistinctDale x = new DistinctDale(2);
        int[][] known = {
            {0, 101}, {1, 48441}, {5, 243181}, {7, 341379}, {493, 7013659}, {500, 7831175},
            {61271, 16776976}, {73985, 136}, {99999, 1752717}
        };
        for (int[] pair : known) {
            CHECK.due("11: hash(" + pair[0] + ")", x.hash(pair[0]), pair[1]);
        }
        for (int item : new int[] {-1, 100000, Integer.MIN_VALUE, Integer.MAX_VALUE}) {
            CHECK.illegal("11: hash(" + item + ")", x, () -> x.hash(item));
        }
    }

    private static void hashOfEveryItem() {
        Model model = new Model(2);
        DistinctDale x = new DistinctDale(2);
        for (int item = 0; item < 100000; item++) {
            if (item % 500 == 0) {
                x = new DistinctDale(2);
            }
            CHECK.due("11: hash(" + item + ")", x.hash(item), model.hash(item));
        }
    }
}
