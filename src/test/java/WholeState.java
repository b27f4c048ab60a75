import java.util.ArrayList;
import java.util.List;

/** All that can be asked of an object whose baskets have few items, as a text. */
final class WholeState {
    /** So many calls of the 512 it may take, if a basket has at most 16 items and k is at most 4. */
    static final int CALLS = 400;

    private WholeState() {
    }

    static String of(DistinctDale x) {
        StringBuilder text = new StringBuilder();
        text.append("clock ").append(x.clock()).append(", k ").append(x.most());
        for (int basket = 0; basket < 6; basket++) {
            text.append("; basket ").append(basket).append(": ").append(ofBasket(x, basket));
            int next = (basket + 1) % 6;
            text.append(", with the next ").append(x.plainCommon(basket, next)).append(" ")
                .append(x.together(basket, next)).append(" ").append(x.common(basket, next)).append(" ")
                .append(x.without(basket, next)).append(" ").append(x.without(next, basket));
        }
        return text.toString();
    }

    private static String ofBasket(DistinctDale x, int basket) {
        List<Integer> sample = Check.sampleOf(x, basket);
        List<Integer> dates = new ArrayList<>();
        for (int item : sample) {
            dates.add(x.dateOf(basket, item));
        }
        StringBuilder text = new StringBuilder();
        text.append(x.plain(basket)).append(" items, sample ").append(sample).append(" of dates ").append(dates)
            .append(" at level ").append(x.level(basket)).append(" tells ").append(x.bySample(basket))
            .append(", keeps ").append(Check.keptBy(x, basket)).append(" tells ").append(x.byLeast(basket))
            .append(", registers ").append(registersOf(x, basket)).append(" tell ").append(x.byRegisters(basket))
            .append(" and of late ").append(x.recent(basket, 1)).append(" ").append(x.recent(basket, 3));
        return text.toString();
    }

    static List<Integer> registersOf(DistinctDale x, int basket) {
        List<Integer> registers = new ArrayList<>();
        for (int register = 0; register < 16; register++) {
            registers.add(x.register(basket, register));
        }
        return registers;
    }
}
