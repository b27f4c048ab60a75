import java.util.ArrayList;
import java.util.List;
import java.util.Map;
import java.util.TreeMap;

/** Counts and prints the calls of a test whose answer is not the one that is due. */
final class Check {

    /** A call whose answer is looked at; a boolean counts 1 or 0. */
    interface Call {
        long answer();
    }

    private final String test;
    private final Map<Integer, Integer> testsOfPromise = new TreeMap<>();
    private String heading = "";
    private int wrong;
    private int asked;

    Check(String test) {
        this.test = test;
    }

    /** Runs a test of one sentence; the promise that says it and the sentence head what is printed. */
    void holds(int promise, String sentence, Runnable body) {
        int askedBefore = asked;
        heading = promise + ", \"" + sentence + "\": ";
        testsOfPromise.merge(promise, 1, Integer::sum);
        try {
            body.run();
            if (asked == askedBefore) {
                report("looks at no answer");
            }
        } catch (RuntimeException e) {
            report("ended by " + e);
        }
        heading = "";
    }

    /** Each of these promises must have had a test. */
    void promises(int first, int last) {
        for (int promise = first; promise <= last; promise++) {
            due("tests of promise " + promise, testsOfPromise.containsKey(promise), true);
        }
    }

    void due(String call, long got, long want) {
        asked++;
        if (got != want) {
            report(call + " answered " + got + ", due is " + want);
        }
    }

    void due(String call, boolean got, boolean want) {
        due(call, got ? 1 : 0, want ? 1 : 0);
    }

    void due(String call, List<? extends Number> got, List<? extends Number> want) {
        asked++;
        if (!got.equals(want)) {
            report(call + " answered " + got + ", due is " + want);
        }
    }

    void text(String call, String got, String want) {
        asked++;
        if (!got.equals(want)) {
            report(call + " gives\n  " + got + "\ndue is\n  " + want);
        }
    }

    /** The call must throw just this exception, and the object must answer as before. */
    void refused(String call, DistinctDale asking, Class<? extends RuntimeException> want, Call body) {
        String before = stateOf(asking);
        text(call, answerOf(body), "throws " + want.getName());
        text("the state behind the refused " + call, stateOf(asking), before);
    }

    void outOfBounds(String call, DistinctDale asking, Call body) {
        refused(call, asking, IndexOutOfBoundsException.class, body);
    }

    void illegal(String call, DistinctDale asking, Call body) {
        refused(call, asking, IllegalArgumentException.class, body);
    }

    /** What a call does, as a text: its answer, or the class of the exception that it throws. */
    static String answerOf(Call body) {
        try {
            return "answers " + body.answer();
        } catch (RuntimeException e) {
            return "throws " + e.getClass().getName();
        }
    }

    /** Most of what can be asked of an object, in few calls, since it answers 512 of them. */
    private static String stateOf(DistinctDale x) {
        List<Long> state = new ArrayList<>();
        state.add((long) x.clock());
        for (int basket = 0; basket < 2; basket++) {
            state.add((long) x.plain(basket));
            state.add((long) x.byLeast(basket));
            state.add(x.byRegisters(basket));
            state.add(x.recent(basket, 1));
            state.add((long) x.bySample(basket));
        }
        return state.toString();
    }

    static List<Integer> keptBy(DistinctDale x, int basket) {
        List<Integer> hashes = new ArrayList<>();
        int kept = x.kept(basket);
        for (int i = 0; i < kept; i++) {
            hashes.add(x.keptAt(basket, i));
        }
        return hashes;
    }

    static List<Integer> sampleOf(DistinctDale x, int basket) {
        List<Integer> items = new ArrayList<>();
        int sampled = x.sampled(basket);
        for (int i = 0; i < sampled; i++) {
            items.add(x.sampledAt(basket, i));
        }
        return items;
    }

    static void addAll(DistinctDale x, int basket, int... items) {
        for (int item : items) {
            x.add(basket, item);
        }
    }

    /** Ends the test: with exit code 1 if an answer was wrong. */
    void end() {
        int tests = testsOfPromise.values().stream().mapToInt(Integer::intValue).sum();
        System.out.println(test + ": " + (tests > 0 ? tests + " tests, " : "") + asked + " answers looked at, "
            + wrong + " not as due");
        if (wrong != 0) {
            System.exit(1);
        }
    }

    private void report(String what) {
        wrong++;
        System.out.println(test + ": " + heading + what);
    }
}
