import java.util.Random;

/** Long runs of calls, right and wrong ones, each answered by the class and by the model alike. */
public final class RandomRunsTest {
    private static final int CALLS = 512;
    private static final Check CHECK = new Check("RandomRunsTest");

    private final Random random;
    private final DistinctDale asked;
    private final Model model;
    private final int spread;
    private final String name;

    private RandomRunsTest(int seed) {
        random = new Random(seed);
        int k = random.nextInt(40) - 3;
        asked = new DistinctDale(k);
        model = new Model(k);
        // A narrow run has many items that come again, a wide one has full registers and high levels.
        spread = seed % 3 == 0 ? 120 : seed % 3 == 1 ? 3000 : 100000;
        name = "run " + seed + " (k " + k + "), ";
    }

    public static void main(String[] args) {
        for (int seed = 0; seed < 240; seed++) {
            RandomRunsTest run = new RandomRunsTest(seed);
            for (int call = 0; call < CALLS; call++) {
                run.oneCall(call < 60 || seed % 5 == 0 ? 60 : 100);
            }
        }
        CHECK.end();
    }

    /** Below 60 of the hundred the state is changed, from there on it is asked for. */
    private void oneCall(int kinds) {
        int kind = random.nextInt(kinds);
        if (kind < 60) {
            change(kind);
        } else if (kind < 84) {
            askOneBasket(kind);
        } else {
            askTwoBaskets(kind);
        }
    }

    private void change(int kind) {
        int a = basket();
        int b = basket();
        int item = item();
        if (kind < 10) {
            same("add(" + a + ", " + item + ")", () -> number(asked.add(a, item)), () -> number(model.add(a, item)));
        } else if (kind < 46) {
            int step = edge(1, spread < 1000 ? 3 : 999);
            int many = edge(1, 60);
            same("addLine(" + a + ", " + item + ", " + step + ", " + many + ")",
                () -> asked.addLine(a, item, step, many), () -> model.addLine(a, item, step, many));
        } else if (kind < 47) {
            same("empty(" + a + ")", () -> asked.empty(a), () -> model.empty(a));
        } else if (kind < 51) {
            same("merge(" + a + ", " + b + ")", () -> asked.merge(a, b), () -> model.merge(a, b));
        } else if (kind < 58) {
            int ticks = edge(1, random.nextInt(4) == 0 ? 1000 : 5);
            same("pass(" + ticks + ")", () -> asked.pass(ticks), () -> model.pass(ticks));
        } else {
            same("clock()", asked::clock, model::clock);
        }
    }

    private void askOneBasket(int kind) {
        int a = basket();
        int item = item();
        int index = edge(0, 18);
        switch (kind) {
            case 60, 61 -> same("plain(" + a + ")", () -> asked.plain(a), () -> model.plain(a));
            case 62, 63 -> same("dateOf(" + a + ", " + item + ")",
                () -> asked.dateOf(a, item), () -> model.dateOf(a, item));
            case 64 -> same("hash(" + item + ")", () -> asked.hash(item), () -> model.hash(item));
            case 65 -> same("most()", asked::most, model::most);
            case 66 -> same("kept(" + a + ")", () -> asked.kept(a), () -> model.kept(a));
            case 67, 68 -> same("keptAt(" + a + ", " + index + ")",
                () -> asked.keptAt(a, index), () -> model.keptAt(a, index));
            case 69, 70 -> same("byLeast(" + a + ")", () -> asked.byLeast(a), () -> model.byLeast(a));
            case 71, 72 -> same("register(" + a + ", " + index + ")",
                () -> asked.register(a, index), () -> model.register(a, index));
            case 73, 74 -> same("byRegisters(" + a + ")", () -> asked.byRegisters(a), () -> model.byRegisters(a));
            case 75, 76, 77 -> askRecent(a);
            case 78 -> same("level(" + a + ")", () -> asked.level(a), () -> model.level(a));
            case 79 -> same("sampled(" + a + ")", () -> asked.sampled(a), () -> model.sampled(a));
            case 80, 81, 82 -> same("sampledAt(" + a + ", " + index + ")",
                () -> asked.sampledAt(a, index), () -> model.sampledAt(a, index));
            default -> same("bySample(" + a + ")", () -> asked.bySample(a), () -> model.bySample(a));
        }
    }

    private void askRecent(int basket) {
        int ticks = edge(1, random.nextInt(5) == 0 ? 100000 : 40);
        same("recent(" + basket + ", " + ticks + ")",
            () -> asked.recent(basket, ticks), () -> model.recent(basket, ticks));
    }

    private void askTwoBaskets(int kind) {
        int a = basket();
        int b = basket();
        String of = "(" + a + ", " + b + ")";
        switch (kind % 4) {
            case 0 -> same("plainCommon" + of, () -> asked.plainCommon(a, b), () -> model.plainCommon(a, b));
            case 1 -> same("together" + of, () -> asked.together(a, b), () -> model.together(a, b));
            case 2 -> same("common" + of, () -> asked.common(a, b), () -> model.common(a, b));
            default -> same("without" + of, () -> asked.without(a, b), () -> model.without(a, b));
        }
    }

    private void same(String call, Check.Call got, Check.Call want) {
        CHECK.text(name + call, Check.answerOf(got), Check.answerOf(want));
    }

    private int basket() {
        return edge(0, 5);
    }

    private int item() {
        return random.nextInt(12) == 0 ? edge(0, 99999) : random.nextInt(spread);
    }

    /** A number from least to greatest, now and then one of the ends, and seldom one far or just beyond. */
    private int edge(int least, int greatest) {
        switch (random.nextInt(80)) {
            case 0: return least - 1;
            case 1: return greatest + 1;
            case 2: return random.nextBoolean() ? Integer.MIN_VALUE : Integer.MAX_VALUE;
            case 3: return least;
            case 4: return greatest;
            default: return least + random.nextInt(greatest - least + 1);
        }
    }

    private static long number(boolean answer) {
        return answer ? 1 : 0;
    }
}
