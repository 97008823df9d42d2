import java.util.ArrayList;
import java.util.Arrays;
import java.util.List;

/**
 * The sentences of 'What it is' and of 'Terms' that name no bound (BoundaryTest has those that do),
 * each by the object's own answers: what one call says follows from what the others say.
 */
public final class TermsTest extends Check {
    private static final int ESTIMATE = 0;
    private static final int COST = 1;
    private static final int BENEFIT = 2;

    /** Facts, and for each dimension the values of its levels. */
    private static final class Sample {
        private final int facts;
        private final int[][] values;

        Sample(int facts, int[]... values) {
            this.facts = facts;
            this.values = values;
        }

        private ViewChooser make(List<Integer> taken) {
            ViewChooser x = new ViewChooser();
            x.facts(facts);
            for (int d = 0; d < values.length; d++) {
                x.dimension(values[d].length);
                for (int level = 0; level < values[d].length; level++) {
                    x.values(d, level, values[d][level]);
                }
            }
            for (int view : taken) {
                x.take(view);
            }
            return x;
        }

        private int views() {
            return make(List.of()).views();
        }

        private long totalWith(List<Integer> taken) {
            return make(taken).total();
        }

        public String toString() {
            return facts + " facts, values " + Arrays.deepToString(values);
        }
    }

    /** In some of them a coarser level has more values than a finer one, or a level has none. */
    private static final List<Sample> SAMPLES = List.of(
        new Sample(0, new int[] {3}),
        new Sample(5),
        new Sample(100, new int[] {50, 5}, new int[] {10}),
        new Sample(100, new int[] {20}, new int[] {20}, new int[] {20}),
        new Sample(1000, new int[] {40, 300}, new int[] {7, 90}),
        new Sample(30, new int[] {4}, new int[] {0}, new int[] {9}),
        new Sample(MAX, new int[] {1000000, 1000, 30, 2}, new int[] {5000}),
        new Sample(600, new int[] {5, 4, 3}, new int[] {8, 2}));

    private static List<Integer> with(List<Integer> taken, int view) {
        List<Integer> more = new ArrayList<>(taken);
        more.add(view);
        return more;
    }

    private static ViewChooser withLevels(int... levels) {
        ViewChooser x = new ViewChooser();
        for (int n : levels) {
            x.dimension(n);
        }
        return x;
    }

    // ---- What it is

    /** The first view after which the total is least, NONE if it does not fall. */
    private static int savesMost(Sample sample, List<Integer> taken) {
        long least = sample.totalWith(taken);
        int best = ViewChooser.NONE;
        for (int view = 0; view < sample.views(); view++) {
            long total = sample.totalWith(with(taken, view));
            if (total < least) {
                least = total;
                best = view;
            }
        }
        return best;
    }

    /** 'one after the other, each time the one that saves most' */
    private static void whatItIsEachTimeTheOneThatSavesMost() {
        for (Sample sample : SAMPLES) {
            ViewChooser x = sample.make(List.of());
            List<Integer> taken = List.of();
            int best = savesMost(sample, taken);
            while (best != ViewChooser.NONE && taken.size() < 15) {
                due(sample + ": step() after " + taken, x.step(), best);
                taken = with(taken, best);
                best = savesMost(sample, taken);
            }
            due(sample + ": step() at last", x.step(), best);
        }
    }

    private static long leastTotal(Sample sample, List<Integer> taken, int from, int more) {
        long least = sample.totalWith(taken);
        for (int view = from; more > 0 && view < sample.views(); view++) {
            least = Math.min(least, leastTotal(sample, with(taken, view), view + 1, more - 1));
        }
        return least;
    }

    /**
     * 'what it saves altogether is never far from what any choice could': of k views, 1 - (1 - 1/k)^k of
     * what the best k save, as the saving of a view never grows when others are chosen before it.
     */
    private static void whatItIsNeverFarFromWhatAnyChoiceCouldSave() {
        for (Sample sample : SAMPLES) {
            long before = sample.totalWith(List.of());
            for (int k = 1; k <= 4; k++) {
                ViewChooser x = sample.make(List.of());
                x.choose(k);
                double saved = before - x.total();
                double best = before - leastTotal(sample, List.of(), 0, k);
                double share = 1 - Math.pow(1 - 1.0 / k, k);
                due(sample + ": choose(" + k + ") saves enough", saved >= share * best - 0.001, true);
            }
        }
    }

    /** Three calls of telling, and then as many as are wanted that leave nothing chosen. */
    private static ViewChooser afterCalls(int calls) {
        ViewChooser x = new ViewChooser();
        x.facts(9);
        x.dimension(2);
        x.values(0, 0, 3);
        for (int call = 4; call <= calls; call++) {
            due("call " + call, call % 2 == 0 ? x.step() : x.drop(), call % 2);
        }
        return x;
    }

    /** 'An object is used for at most 512 calls after it has been made' */
    private static void whatItIsThe512thCallIsStillAnswered() {
        int[][] calls = {{Calls.DIMENSION, 2}, {Calls.VALUES, 0, 0, 7}, {Calls.FACTS, 8}, {Calls.VIEWS},
            {Calls.DIGIT, 1, 0}, {Calls.IS_ABOVE, 0, 1}, {Calls.TOLD, 0, BENEFIT}, {Calls.TAKE, 2}, {Calls.STEP},
            {Calls.CHOOSE, 16}, {Calls.CHOSEN, 0}, {Calls.DROP}, {Calls.TOTAL}};
        due("methods", calls.length, Calls.methods());
        for (int[] call : calls) {
            String want = Calls.answer(afterCalls(3), call);
            due(Calls.text(call) + " as call 512", Calls.answer(afterCalls(511), call), want);
        }
    }

    // ---- Terms: dimensions, levels, values, facts

    /** 'DIMENSIONS are 0, 1, ..' */
    private static void termsDimensionsAre0And1AndSoOn() {
        int[] levels = {2, 1, 3, 1, 1};
        ViewChooser x = new ViewChooser();
        for (int d = 0; d < levels.length; d++) {
            due("dimension(" + levels[d] + ")", x.dimension(levels[d]), d);
            due("values(" + d + ", 0, 5)", x.values(d, 0, 5), 0);
        }
    }

    /** 'each with LEVELS 0, 1, .. (the finest first)': what is finer is above what is coarser. */
    private static void termsLevelsTheFinestFirst() {
        ViewChooser x = withLevels(4);
        x.facts(1000);
        for (int level = 0; level < 4; level++) {
            due("values(0, " + level + ", ..)", x.values(0, level, 400 >> level), 0);
        }
        for (int level = 0; level < 4; level++) {
            due("estimate of the view at level " + level, x.told(level, ESTIMATE), 400 >> level);
            due("level " + level + " above the next", x.isAbove(level, level + 1), true);
            due("the next above level " + level, x.isAbove(level + 1, level), false);
        }
    }

    /** 'each level has a number of VALUES': one of its own. */
    private static void termsEachLevelHasValuesOfItsOwn() {
        int[] levels = {4, 1, 3, 2};
        ViewChooser x = withLevels(levels);
        for (int round = 0; round < 3; round++) {
            for (int d = 0; d < levels.length; d++) {
                for (int level = 0; level < levels[d]; level++) {
                    int n = 100 * round + 10 * d + level + 1;
                    due("values(" + d + ", " + level + ", " + n + ")", x.values(d, level, n), round == 0 ? 0 : n - 100);
                }
            }
        }
    }

    /** 'There is a number of FACTS': one, whatever the dimensions and the values are. */
    private static void termsThereIsANumberOfFacts() {
        ViewChooser x = new ViewChooser();
        x.facts(7);
        x.dimension(2);
        x.values(0, 0, 3);
        x.take(0);
        x.drop();
        for (int view = 0; view < 3; view++) {
            due("cost of " + view, x.told(view, COST), 7);
        }
        due("facts(8)", x.facts(8), 7);
        due("cost of the last view", x.told(2, COST), 8);
    }

    // ---- Terms: views, digits and their number

    private static final int[][] ROWS = {{}, {1}, {4}, {2, 1}, {1, 2}, {4, 2, 1}, {1, 3, 2}, {3, 3, 3}, {1, 1, 1, 1, 1, 1}};

    /** 'A VIEW tells for each dimension its DIGIT: a level .., or, as many as the dimension has levels ..' */
    private static void termsTheDigitIsALevelOrAsManyAsThereAre() {
        for (int[] levels : ROWS) {
            ViewChooser x = withLevels(levels);
            int views = x.views();
            for (int d = 0; d < levels.length; d++) {
                int[] seen = new int[levels[d] + 1];
                for (int view = 0; view < views; view++) {
                    int digit = x.digit(view, d);
                    boolean fits = digit >= 0 && digit <= levels[d];
                    due("digit(" + view + ", " + d + ") of " + Arrays.toString(levels) + " fits", fits, true);
                    seen[fits ? digit : 0]++;
                }
                for (int n : seen) {
                    due("views with a digit of dimension " + d, n, views / seen.length);
                }
            }
        }
    }

    /** 'Its NUMBER is the digit of dimension 0, times one more than the levels of dimension 1, plus ..' */
    private static void termsTheNumberIsMadeOfTheDigits() {
        for (int[] levels : ROWS) {
            ViewChooser x = withLevels(levels);
            int views = x.views();
            for (int view = 0; view < views; view++) {
                int number = 0;
                for (int d = 0; d < levels.length; d++) {
                    number = number * (levels[d] + 1) + x.digit(view, d);
                }
                due("number from the digits, levels " + Arrays.toString(levels), number, view);
            }
        }
    }

    private static boolean noneGreater(int[] digits, int[] others) {
        for (int d = 0; d < digits.length; d++) {
            if (digits[d] > others[d]) {
                return false;
            }
        }
        return true;
    }

    private static int[][] digitsOf(ViewChooser x, int dimensions) {
        int[][] digits = new int[x.views()][dimensions];
        for (int view = 0; view < digits.length; view++) {
            for (int d = 0; d < dimensions; d++) {
                digits[view][d] = x.digit(view, d);
            }
        }
        return digits;
    }

    /** 'Of two views one is ABOVE another if none of its digits is greater than that of the other one' */
    private static void termsAboveIfNoneOfItsDigitsIsGreater() {
        for (int[] levels : ROWS) {
            int[][] digits = digitsOf(withLevels(levels), levels.length);
            for (int view = 0; view < digits.length; view++) {
                ViewChooser x = withLevels(levels);
                for (int other = 0; other < digits.length; other++) {
                    due("isAbove(" + view + ", " + other + ") of levels " + Arrays.toString(levels),
                        x.isAbove(view, other), noneGreater(digits[view], digits[other]));
                }
            }
        }
    }

    // ---- Terms: chosen, cost, benefit

    /** 'none again whenever dimensions, values or facts are told', the same ones too; and by no other call. */
    private static void termsNoneIsChosenAgainWheneverAnythingIsTold() {
        int[][] telling = {{Calls.DIMENSION, 1}, {Calls.DIMENSION, 4}, {Calls.VALUES, 0, 0, 51}, {Calls.VALUES, 0, 0, 50},
            {Calls.VALUES, 1, 0, 0}, {Calls.FACTS, 101}, {Calls.FACTS, 100}, {Calls.FACTS, 0}};
        int[][] others = {{Calls.VIEWS}, {Calls.DIGIT, 5, 1}, {Calls.IS_ABOVE, 0, 5}, {Calls.TOLD, 2, ESTIMATE},
            {Calls.TOLD, 2, COST}, {Calls.TOLD, 2, BENEFIT}, {Calls.TAKE, 2}, {Calls.STEP}, {Calls.CHOOSE, 0},
            {Calls.CHOOSE, 16}, {Calls.CHOSEN, 0}, {Calls.TOTAL}};
        Sample sample = new Sample(100, new int[] {50, 5}, new int[] {10});
        for (int[] call : telling) {
            ViewChooser x = sample.make(List.of(4, 1));
            due(Calls.text(call) + " throws", Calls.answer(x, call).startsWith("throws"), false);
            illegalArgument("chosen(0) after " + Calls.text(call), () -> x.chosen(0));
            due("drop() after " + Calls.text(call), x.drop(), 0);
        }
        for (int[] call : others) {
            ViewChooser x = sample.make(List.of(4, 1));
            due(Calls.text(call) + " throws", Calls.answer(x, call).startsWith("throws"), false);
            due("chosen(0) after " + Calls.text(call), x.chosen(0), 4);
            due("chosen(1) after " + Calls.text(call), x.chosen(1), 1);
        }
    }

    private static List<List<Integer>> someChoices(Sample sample) {
        int last = sample.views() - 1;
        return List.of(List.of(), List.of(0), List.of(last), List.of(last, last / 2), List.of(last / 2, last / 3, last / 2));
    }

    /** 'the least of the number of facts and the estimates of all chosen views that are above it' */
    private static void termsTheCostIsTheLeastOfTheFactsAndTheEstimatesAbove() {
        for (Sample sample : SAMPLES) {
            for (List<Integer> taken : someChoices(sample)) {
                ViewChooser x = sample.make(taken);
                int views = x.views();
                for (int view = 0; view < views; view++) {
                    long least = sample.facts;
                    for (int other : taken) {
                        least = x.isAbove(other, view) ? Math.min(least, x.told(other, ESTIMATE)) : least;
                    }
                    due(sample + ", chosen " + taken + ": cost of " + view, x.told(view, COST), least);
                }
            }
        }
    }

    private static long sumBelow(ViewChooser x, int view, int views) {
        long estimate = x.told(view, ESTIMATE);
        long sum = 0;
        for (int other = 0; other < views; other++) {
            if (x.isAbove(view, other)) {
                sum += Math.max(0, x.told(other, COST) - estimate);
            }
        }
        return sum;
    }

    /** 'the sum, over all views that v is above, of how much the cost of each is greater than the estimate of v' */
    private static void termsTheBenefitIsTheSumOverAllViewsThatItIsAbove() {
        for (Sample sample : SAMPLES) {
            for (List<Integer> taken : someChoices(sample)) {
                ViewChooser x = sample.make(taken);
                int views = x.views();
                for (int view = 0; view < views; view++) {
                    due(sample + ", chosen " + taken + ": benefit of " + view, x.told(view, BENEFIT), sumBelow(x, view, views));
                }
            }
        }
    }

    // ---- Terms: illegal argument and illegal state, the constant

    /** 'In all calls illegal argument: a number is out of its bounds, there is no such dimension, level or view.' */
    private static void termsIllegalArgumentInAllCalls() {
        int[][] calls = {
            {Calls.DIMENSION, 0}, {Calls.DIMENSION, 5}, {Calls.VALUES, 0, 0, -1}, {Calls.VALUES, 0, 0, 1000001},
            {Calls.FACTS, -1}, {Calls.TOLD, 0, -1}, {Calls.TOLD, 0, 3}, {Calls.CHOOSE, -1}, {Calls.CHOOSE, 17},
            {Calls.CHOSEN, -1}, {Calls.CHOSEN, 1},
            {Calls.VALUES, -1, 0, 1}, {Calls.VALUES, 2, 0, 1}, {Calls.DIGIT, 0, -1}, {Calls.DIGIT, 0, 2},
            {Calls.VALUES, 0, -1, 1}, {Calls.VALUES, 0, 2, 1}, {Calls.VALUES, 1, 1, 1},
            {Calls.DIGIT, -1, 0}, {Calls.DIGIT, 6, 0}, {Calls.IS_ABOVE, -1, 0}, {Calls.IS_ABOVE, 6, 0},
            {Calls.IS_ABOVE, 0, -1}, {Calls.IS_ABOVE, 0, 6}, {Calls.TOLD, -1, 0}, {Calls.TOLD, 6, 0},
            {Calls.TAKE, -1}, {Calls.TAKE, 6}};
        Sample sample = new Sample(100, new int[] {50, 5}, new int[] {10});
        for (int[] call : calls) {
            due(Calls.text(call), Calls.answer(sample.make(List.of(3)), call), ARGUMENT);
        }
    }

    /** 'Illegal state: there would be too many dimensions, views or chosen ones.' */
    private static void termsIllegalStateIfThereWouldBeTooMany() {
        ViewChooser dimensions = withLevels(1, 1, 1, 1, 1, 1, 1, 1);
        illegalState("a ninth dimension, 512 views", () -> dimensions.dimension(1));
        ViewChooser views = withLevels(4, 4, 4);
        illegalState("a fourth dimension, 625 views", () -> views.dimension(4));
        ViewChooser chosen = new ViewChooser();
        for (int i = 0; i < 16; i++) {
            chosen.take(0);
        }
        illegalState("take(0) as the 17th", () -> chosen.take(0));
        illegalState("step() as the 17th", () -> chosen.step());
        due("choose(16), which needs no 17th", chosen.choose(16), 16);
    }

    /** 'The constants: NONE = -1: There is none.' */
    private static void termsNoneIsMinus1() {
        due("NONE", ViewChooser.NONE, -1);
        due("step() where there is none", new ViewChooser().step(), -1);
    }

    public static void main(String[] args) {
        runAll(TermsTest.class);
    }
}
