import java.util.Arrays;

/**
 * For each sentence of the document that names a bound, a test of its own: the last number that is
 * allowed and the first that is not, nothing there yet, as much as there can be, and what is thrown.
 * RefusedCallsTest tells that a call that throws changes nothing, and TermsTest what the terms mean.
 */
public final class BoundaryTest extends Check {
    private static final int MILLION = 1000000;
    private static final int ESTIMATE = 0;
    private static final int COST = 1;
    private static final int BENEFIT = 2;

    private static ViewChooser withLevels(int... levels) {
        ViewChooser x = new ViewChooser();
        for (int n : levels) {
            x.dimension(n);
        }
        return x;
    }

    /** Eight dimensions of one level each, with 256 views. */
    private static ViewChooser withEightDimensions() {
        return withLevels(1, 1, 1, 1, 1, 1, 1, 1);
    }

    /** As many views as there can be, with as many dimensions as there can be. */
    private static ViewChooser with512Views() {
        return withLevels(3, 1, 1, 1, 1, 1, 1, 1);
    }

    /** Dimensions of one level each, with so many values. */
    private static ViewChooser withValues(int facts, int... values) {
        ViewChooser x = new ViewChooser();
        x.facts(facts);
        for (int d = 0; d < values.length; d++) {
            x.dimension(1);
            x.values(d, 0, values[d]);
        }
        return x;
    }

    /** Each view's estimate is less than those of all others above it, so each is of benefit until it is chosen. */
    private static ViewChooser withFallingValues(int facts, int... levels) {
        ViewChooser x = withLevels(levels);
        x.facts(facts);
        for (int d = 0; d < levels.length; d++) {
            for (int level = 0; level < levels[d]; level++) {
                x.values(d, level, levels[d] + 1 - level);
            }
        }
        return x;
    }

    private static ViewChooser takenTimes(int n, int view, ViewChooser x) {
        for (int i = 0; i < n; i++) {
            x.take(view);
        }
        return x;
    }

    private static long estimate(int facts, int... values) {
        return withValues(facts, values).told(0, ESTIMATE);
    }

    // ---- Terms

    private static void termsEightDimensionsAreAllowedANinthIsNot() {
        ViewChooser x = new ViewChooser();
        for (int i = 0; i < 8; i++) {
            due("dimension number " + i, x.dimension(1), i);
        }
        illegalState("a ninth dimension", () -> x.dimension(1));
    }

    private static void termsFourLevelsAreAllowedAFifthIsNot() {
        ViewChooser x = withLevels(4);
        due("digit of the last view", x.digit(4, 0), 4);
        due("values of level 3", x.values(0, 3, 1), 0);
        illegalArgument("values of level 4", () -> x.values(0, 4, 1));
        illegalArgument("dimension(5)", () -> new ViewChooser().dimension(5));
    }

    /** Every row of dimensions that can be told, and every way to go on from it. */
    private static void terms512ViewsAreAllowedMoreAreNot() {
        goOnFrom(new int[0], 1);
    }

    private static void goOnFrom(int[] levels, int views) {
        due("views() of " + levels.length + " dimensions", withLevels(levels).views(), views);
        for (int next = 1; next <= 4; next++) {
            int more = next;
            int there = views * (next + 1);
            String what = "from " + views + " views of " + levels.length + " dimensions, dimension(" + next + ")";
            if (levels.length == 8 || there > 512) {
                illegalState(what, () -> withLevels(levels).dimension(more));
                continue;
            }
            due(what, withLevels(levels).dimension(next), levels.length);
            int[] longer = Arrays.copyOf(levels, levels.length + 1);
            longer[levels.length] = next;
            goOnFrom(longer, there);
        }
    }

    private static void termsEachLevelHas0ValuesAtFirst() {
        ViewChooser x = withLevels(1, 4, 2, 3);
        int[] levels = {1, 4, 2, 3};
        for (int d = 0; d < levels.length; d++) {
            for (int level = 0; level < levels[d]; level++) {
                due("values(" + d + ", " + level + ", 9)", x.values(d, level, 9), 0);
            }
        }
        due("a dimension after values are told", x.dimension(1), 4);
        due("its level", x.values(4, 0, 9), 0);
    }

    private static void termsAViewWithALevelOf0ValuesHasTheEstimate0() {
        ViewChooser x = withLevels(2, 1);
        x.facts(10);
        due("estimate of the view with all dimensions", x.told(0, ESTIMATE), 0);
        due("estimate of a view with one level", x.told(4, ESTIMATE), 0);
        due("estimate of the view with none", x.told(5, ESTIMATE), 1);
    }

    private static void termsThereAre0FactsAtFirst() {
        ViewChooser x = withLevels(1);
        x.values(0, 0, 5);
        for (int view = 0; view < 2; view++) {
            for (int what = ESTIMATE; what <= BENEFIT; what++) {
                due("told(" + view + ", " + what + ")", x.told(view, what), 0);
            }
        }
        due("total()", x.total(), 0);
        due("facts(1)", x.facts(1), 0);
    }

    private static void termsWithoutDimensionsTheOnlyViewIs0() {
        ViewChooser x = new ViewChooser();
        due("views()", x.views(), 1);
        due("isAbove(0, 0)", x.isAbove(0, 0), true);
        due("told(0, 0)", x.told(0, ESTIMATE), 0);
        due("take(0)", x.take(0), 1);
        due("chosen(0)", x.chosen(0), 0);
        for (int view : new int[] {-1, 1}) {
            illegalArgument("isAbove(" + view + ", 0)", () -> x.isAbove(view, 0) ? 1 : 0);
            illegalArgument("isAbove(0, " + view + ")", () -> x.isAbove(0, view) ? 1 : 0);
            illegalArgument("told(" + view + ", 0)", () -> x.told(view, ESTIMATE));
            illegalArgument("take(" + view + ")", () -> x.take(view));
        }
        illegalArgument("digit(0, 0)", () -> x.digit(0, 0));
        illegalArgument("values(0, 0, 0)", () -> x.values(0, 0, 0));
    }

    private static void termsAViewsNumberCountsTheLastDimensionFirst() {
        ViewChooser x = withLevels(1, 4, 2);
        int[][] digits = {{0, 0, 0}, {0, 0, 1}, {0, 0, 2}, {0, 1, 0}, {0, 4, 2}, {1, 0, 0}, {1, 4, 2}};
        int[] views = {0, 1, 2, 3, 14, 15, 29};
        for (int i = 0; i < views.length; i++) {
            for (int d = 0; d < 3; d++) {
                due("digit(" + views[i] + ", " + d + ")", x.digit(views[i], d), digits[i][d]);
            }
        }
    }

    private static void termsAProductJustBelowAtAndAboveTheFacts() {
        due("product 99 of 100 facts", estimate(100, 9, 11), 99);
        due("product 100 of 100 facts", estimate(100, 10, 10), 100);
        due("product 101 of 100 facts", estimate(100, 101, 1), 100);
        due("product 102 of 100 facts", estimate(100, 6, 17), 100);
        due("the product of the greatest facts", estimate(MAX, 1, MILLION, 2147), 2147L * MILLION);
        due("one factor more than the greatest facts", estimate(MAX, 1, MILLION, 2148), MAX);
    }

    private static void termsAProductHoweverGreat() {
        due("2 to the 31st", estimate(MAX, 65536, 32768), MAX);
        due("2 to the 32nd", estimate(MAX, 65536, 65536), MAX);
        due("2 to the 32nd and 1000 facts", estimate(1000, 65536, 65536), 1000);
        due("46341 squared, below 0 as an int", estimate(MAX, 46341, 46341), MAX);
        due("2 to the 32nd plus 65536, as an int 65536", estimate(MAX, 65536, 65537), MAX);
        due("2 to the 63rd", estimate(MAX, 65536, 65536, 65536, 32768), MAX);
        due("2 to the 64th", estimate(MAX, 65536, 65536, 65536, 65536), MAX);
        due("2 to the 64th and 1 fact", estimate(1, 65536, 65536, 65536, 65536), 1);
        due("2 to the 128th", estimate(MAX, 65536, 65536, 65536, 65536, 65536, 65536, 65536, 65536), MAX);
        due("10 to the 24th", estimate(MAX, MILLION, MILLION, MILLION, MILLION), MAX);
        due("10 to the 48th", estimate(MAX, MILLION, MILLION, MILLION, MILLION, MILLION, MILLION, MILLION, MILLION), MAX);
        due("5 times 10 to the 23rd, as a long 361538432", estimate(MAX, 978799, 931489, 928883, 608640), MAX);
    }

    private static void termsAProductWithAFactorOf0Is0HoweverGreatTheOthersAre() {
        for (int zero = 0; zero < 8; zero++) {
            int[] values = {MILLION, MILLION, MILLION, MILLION, MILLION, MILLION, MILLION, MILLION};
            values[zero] = 0;
            due("a 0 at dimension " + zero, estimate(MAX, values), 0);
            due("a 0 at dimension " + zero + " and 1 fact", estimate(1, values), 0);
        }
    }

    private static void termsAProductOfNoneIs1() {
        int[] facts = {0, 1, 2, MAX};
        int[] want = {0, 1, 1, 1};
        for (int i = 0; i < facts.length; i++) {
            due("without dimensions, " + facts[i] + " facts", estimate(facts[i]), want[i]);
            due("the last of two views, " + facts[i] + " facts", withValues(facts[i], 7).told(1, ESTIMATE), want[i]);
        }
        ViewChooser x = with512Views();
        x.facts(MAX);
        due("the last of 512 views", x.told(511, ESTIMATE), 1);
    }

    private static void termsADigitOfAsManyAsTheLevelsHasNoValues() {
        for (int levels = 1; levels <= 4; levels++) {
            ViewChooser x = withLevels(levels, 1);
            x.facts(1000);
            x.values(1, 0, 7);
            for (int level = 0; level < levels; level++) {
                x.values(0, level, 10 + level);
            }
            for (int level = 0; level < levels; level++) {
                due("view at level " + level + " of " + levels, x.told(2 * level, ESTIMATE), 7 * (10 + level));
            }
            due("view without the dimension of " + levels, x.told(2 * levels, ESTIMATE), 7);
        }
    }

    private static void termsEachViewIsAboveItself() {
        ViewChooser x = withLevels(4, 4, 4);
        for (int view = 0; view < 125; view++) {
            due("isAbove(" + view + ", itself)", x.isAbove(view, view), true);
        }
    }

    private static void termsNoneIsChosenAtFirst() {
        ViewChooser x = new ViewChooser();
        illegalArgument("chosen(0)", () -> x.chosen(0));
        due("choose(0)", x.choose(0), 0);
        due("drop()", x.drop(), 0);
    }

    private static void termsTheCostWithNoneChosenIsTheFacts() {
        int[] facts = {0, 1, MAX};
        for (int n : facts) {
            ViewChooser x = withValues(n, 0, 3);
            for (int view = 0; view < 4; view++) {
                due("cost of " + view + " of " + n + " facts", x.told(view, COST), n);
            }
        }
    }

    private static void termsTheCostIsTheLeastOfAllChosenAbove() {
        ViewChooser x = withValues(100, 30, 2);
        x.take(3);
        x.take(1);
        x.take(2);
        x.take(0);
        due("cost of 0: 0 is above", x.told(0, COST), 60);
        due("cost of 1: 0 and 1 are above", x.told(1, COST), 30);
        due("cost of 2: 0 and 2 are above", x.told(2, COST), 2);
        due("cost of 3: all are above", x.told(3, COST), 1);
    }

    private static void termsTheBenefitCountsOnlyGreaterCosts() {
        ViewChooser x = withLevels(2);
        x.facts(11);
        x.values(0, 0, 11);
        x.values(0, 1, 10);
        due("estimate equal to all costs", x.told(0, BENEFIT), 0);
        due("estimate 1 below two costs", x.told(1, BENEFIT), 2);
        x.take(2);
        due("estimate 1 below one cost, above another", x.told(1, BENEFIT), 1);
        x.take(1);
        due("estimate equal to its own cost", x.told(1, BENEFIT), 0);
        due("estimate equal to the last cost", x.told(2, BENEFIT), 0);
    }

    private static void termsTheExceptionNamedFirstIsThrown() {
        int[] levels = {MIN, -1, 0, 5, MAX};
        ViewChooser eight = withEightDimensions();
        ViewChooser most = withLevels(3, 3, 3, 3, 1);
        ViewChooser full = takenTimes(16, 0, withLevels(1));
        for (int n : levels) {
            illegalArgument("a ninth dimension(" + n + ")", () -> eight.dimension(n));
            illegalArgument("dimension(" + n + ") at 512 views", () -> most.dimension(n));
        }
        for (int view : new int[] {MIN, -1, 2, 512, MAX}) {
            illegalArgument("take(" + view + ") as the 17th", () -> full.take(view));
        }
    }

    private static void termsObjectsKnowNothingOfEachOther() {
        ViewChooser x = withValues(100, 5);
        ViewChooser y = new ViewChooser();
        x.take(1);
        due("views() of a new one", y.views(), 1);
        due("facts(3) of a new one", y.facts(3), 0);
        due("drop() of a new one", y.drop(), 0);
        due("cost in the first", x.told(1, COST), 1);
        due("views() of the first", x.views(), 2);
        due("facts(4) of the first", x.facts(4), 100);
    }

    // ---- Promise 1: A new object

    private static void promise1NoDimensions() {
        ViewChooser x = new ViewChooser();
        due("views()", x.views(), 1);
        illegalArgument("digit(0, 0)", () -> x.digit(0, 0));
        illegalArgument("values(0, 0, 1)", () -> x.values(0, 0, 1));
        due("dimension(4)", x.dimension(4), 0);
    }

    private static void promise1NoFacts() {
        due("facts(0)", new ViewChooser().facts(0), 0);
        due("total()", new ViewChooser().total(), 0);
        for (int what = ESTIMATE; what <= BENEFIT; what++) {
            due("told(0, " + what + ")", new ViewChooser().told(0, what), 0);
        }
    }

    private static void promise1NothingIsChosen() {
        illegalArgument("chosen(0)", () -> new ViewChooser().chosen(0));
        due("drop()", new ViewChooser().drop(), 0);
        due("take(0)", new ViewChooser().take(0), 1);
        due("step()", new ViewChooser().step(), -1);
        due("choose(16)", new ViewChooser().choose(16), 0);
    }

    // ---- Promise 2: dimension

    private static void promise2Levels1To4() {
        for (int levels = 1; levels <= 4; levels++) {
            ViewChooser x = new ViewChooser();
            due("dimension(" + levels + ")", x.dimension(levels), 0);
            due("views()", x.views(), levels + 1);
        }
        for (int levels : new int[] {MIN, MIN + 1, -2, -1, 0, 5, 6, 511, 512, MAX - 1, MAX}) {
            illegalArgument("dimension(" + levels + ")", () -> new ViewChooser().dimension(levels));
            illegalArgument("dimension(" + levels + ") after one", () -> withLevels(4).dimension(levels));
        }
    }

    private static void promise2ThereAre8() {
        due("the eighth", withLevels(1, 1, 1, 1, 1, 1, 1).dimension(1), 7);
        for (int levels = 1; levels <= 4; levels++) {
            int n = levels;
            illegalState("a ninth of " + levels + " levels, 256 views", () -> withEightDimensions().dimension(n));
            illegalState("a ninth of " + levels + " levels, 512 views", () -> with512Views().dimension(n));
        }
    }

    private static void promise2ThereWouldBeMoreThan512Views() {
        due("512 from 128", withLevels(1, 1, 1, 1, 1, 1, 1).dimension(3), 7);
        illegalState("640 from 128", () -> withLevels(1, 1, 1, 1, 1, 1, 1).dimension(4));
        due("512 from 256", withLevels(3, 3, 3, 3).dimension(1), 4);
        illegalState("768 from 256", () -> withLevels(3, 3, 3, 3).dimension(2));
        due("500 from 125", withLevels(4, 4, 4).dimension(3), 3);
        illegalState("625 from 125", () -> withLevels(4, 4, 4).dimension(4));
        illegalState("540 from 180", () -> withLevels(3, 2, 2, 4).dimension(2));
        illegalState("540 from 270", () -> withLevels(4, 2, 2, 2, 1).dimension(1));
        illegalState("1000 from 500", () -> withLevels(4, 4, 4, 3).dimension(1));
        illegalState("1024 from 512", () -> withLevels(3, 3, 3, 3, 1).dimension(1));
    }

    private static void promise2AnArgumentIsRefusedBeforeTheState() {
        ViewChooser eight = with512Views();
        ViewChooser five = withLevels(3, 3, 3, 3, 1);
        for (int levels : new int[] {MIN, -1, 0, 5, MAX}) {
            illegalArgument("dimension(" + levels + ") of eight", () -> eight.dimension(levels));
            illegalArgument("dimension(" + levels + ") of 512 views", () -> five.dimension(levels));
        }
    }

    private static void promise2NoneIsChosenAgain() {
        ViewChooser x = takenTimes(16, 1, withValues(10, 5));
        due("dimension(1)", x.dimension(1), 1);
        noneIsChosen(x, 10);
        due("values stay", x.values(0, 0, 5), 5);
        due("facts stay", x.facts(10), 10);
    }

    private static void noneIsChosen(ViewChooser x, long facts) {
        illegalArgument("chosen(0) with none chosen", () -> x.chosen(0));
        for (int view = 0; view < x.views(); view++) {
            due("cost of " + view + " with none chosen", x.told(view, COST), facts);
        }
        due("total() with none chosen", x.total(), facts * x.views());
        for (int i = 1; i <= 16; i++) {
            due("take(0) with room for 16", x.take(0), i);
        }
        illegalState("take(0) as the 17th", () -> x.take(0));
        due("drop() of 16", x.drop(), 16);
    }

    // ---- Promise 3: values

    private static void promise3From0ToAMillionValues() {
        ViewChooser x = withLevels(2);
        due("values(0, 0, 0)", x.values(0, 0, 0), 0);
        due("values(0, 0, 1)", x.values(0, 0, 1), 0);
        due("values(0, 0, 999999)", x.values(0, 0, 999999), 1);
        due("values(0, 0, 1000000)", x.values(0, 0, MILLION), 999999);
        due("values(0, 0, 0) again", x.values(0, 0, 0), MILLION);
        due("values(0, 1, 1000000)", x.values(0, 1, MILLION), 0);
        for (int n : new int[] {MIN, -MILLION, -1, MILLION + 1, MAX}) {
            illegalArgument("values(0, 0, " + n + ")", () -> x.values(0, 0, n));
            illegalArgument("values(0, 1, " + n + ")", () -> x.values(0, 1, n));
        }
        due("values(0, 0, 5) after wrong ones", x.values(0, 0, 5), 0);
        due("values(0, 1, 5) after wrong ones", x.values(0, 1, 5), MILLION);
    }

    private static void promise3NoSuchDimension() {
        illegalArgument("values(0, 0, 1) of none", () -> new ViewChooser().values(0, 0, 1));
        ViewChooser two = withLevels(1, 1);
        ViewChooser eight = withEightDimensions();
        due("the last of two", two.values(1, 0, 1), 0);
        due("the last of eight", eight.values(7, 0, 1), 0);
        illegalArgument("values(2, 0, 1) of two", () -> two.values(2, 0, 1));
        // 4 times these, as an int, is the place of a dimension that there is.
        for (int d : new int[] {MIN, MIN + 1, -1, 8, 0x20000000, 0x40000000, 0x40000001, -0x40000000, MAX}) {
            illegalArgument("values(" + d + ", 0, 1) of two", () -> two.values(d, 0, 1));
            illegalArgument("values(" + d + ", 0, 1) of eight", () -> eight.values(d, 0, 1));
        }
    }

    private static void promise3NoSuchLevel() {
        for (int levels = 1; levels <= 4; levels++) {
            ViewChooser x = withLevels(levels, levels, levels);
            int end = levels;
            for (int d = 0; d < 3; d++) {
                int dimension = d;
                due("values(" + d + ", 0, 1)", x.values(d, 0, 1), 0);
                due("the last level of " + levels, x.values(d, levels - 1, 2), levels == 1 ? 1 : 0);
                illegalArgument("level " + levels + " of as many", () -> x.values(dimension, end, 1));
                for (int level : new int[] {MIN, -4, -1, 4, 5, 8, MAX}) {
                    illegalArgument("values(" + d + ", " + level + ", 1)", () -> x.values(dimension, level, 1));
                }
            }
        }
    }

    private static void promise3EachDimensionHasItsOwnLevels() {
        ViewChooser x = withLevels(1, 4, 2);
        due("values(1, 3, 6)", x.values(1, 3, 6), 0);
        illegalArgument("values(0, 1, 6)", () -> x.values(0, 1, 6));
        illegalArgument("values(2, 2, 6)", () -> x.values(2, 2, 6));
        illegalArgument("values(2, 3, 6)", () -> x.values(2, 3, 6));
    }

    private static void promise3NoneIsChosenAgain() {
        ViewChooser x = takenTimes(16, 1, withValues(10, 5));
        due("other values", x.values(0, 0, 6), 5);
        noneIsChosen(x, 10);
        takenTimes(16, 1, x);
        due("the same values", x.values(0, 0, 6), 6);
        noneIsChosen(x, 10);
        takenTimes(16, 1, x);
        due("no values", x.values(0, 0, 0), 6);
        noneIsChosen(x, 10);
    }

    // ---- Promise 4: facts

    private static void promise4NotBelow0() {
        ViewChooser x = new ViewChooser();
        due("facts(0)", x.facts(0), 0);
        due("facts(1)", x.facts(1), 0);
        due("facts(max)", x.facts(MAX), 1);
        due("facts(max) again", x.facts(MAX), MAX);
        for (int n : new int[] {-1, -2, MIN, MIN + 1}) {
            illegalArgument("facts(" + n + ")", () -> x.facts(n));
        }
        due("facts(0) after wrong ones", x.facts(0), MAX);
        due("facts(0) again", x.facts(0), 0);
    }

    private static void promise4NoneIsChosenAgain() {
        ViewChooser x = takenTimes(16, 1, withValues(10, 5));
        due("other facts", x.facts(11), 10);
        noneIsChosen(x, 11);
        takenTimes(16, 1, x);
        due("the same facts", x.facts(11), 11);
        noneIsChosen(x, 11);
        takenTimes(16, 1, x);
        due("no facts", x.facts(0), 11);
        noneIsChosen(x, 0);
    }

    // ---- Promise 5: views

    private static void promise5From1To512Views() {
        due("views() of no dimensions", new ViewChooser().views(), 1);
        due("views() of one level", withLevels(1).views(), 2);
        due("views() of four levels", withLevels(4).views(), 5);
        due("views() of eight dimensions", withEightDimensions().views(), 256);
        due("views() of the most views in eight", with512Views().views(), 512);
        due("views() of the most views in five", withLevels(1, 3, 3, 3, 3).views(), 512);
    }

    // ---- Promise 6: digit

    private static void promise6From0ToTheLevels() {
        for (int levels = 1; levels <= 4; levels++) {
            ViewChooser x = withLevels(levels);
            for (int view = 0; view <= levels; view++) {
                due("digit(" + view + ", 0) of " + levels, x.digit(view, 0), view);
            }
        }
        for (int d = 0; d < 8; d++) {
            ViewChooser x = with512Views();
            due("digit(0, " + d + ")", x.digit(0, d), 0);
            due("digit(511, " + d + ")", x.digit(511, d), d == 0 ? 3 : 1);
            due("digit(128, " + d + ")", x.digit(128, d), d == 0 ? 1 : 0);
            due("digit(127, " + d + ")", x.digit(127, d), d == 0 ? 0 : 1);
        }
    }

    private static void promise6NoSuchView() {
        ViewChooser six = withLevels(2, 1);
        ViewChooser most = with512Views();
        illegalArgument("digit(6, 0) of six", () -> six.digit(6, 0));
        illegalArgument("digit(511, 0) of six", () -> six.digit(511, 0));
        for (int view : new int[] {MIN, -1, 512, 513, MAX}) {
            illegalArgument("digit(" + view + ", 0) of six", () -> six.digit(view, 0));
            illegalArgument("digit(" + view + ", 1) of six", () -> six.digit(view, 1));
            illegalArgument("digit(" + view + ", 7) of 512", () -> most.digit(view, 7));
        }
    }

    private static void promise6NoSuchDimension() {
        ViewChooser two = withLevels(2, 1);
        ViewChooser eight = with512Views();
        illegalArgument("digit(0, 0) of none", () -> new ViewChooser().digit(0, 0));
        illegalArgument("digit(5, 2) of two", () -> two.digit(5, 2));
        // Some of these are 0 .. 7 if only their last bits are looked at.
        for (int d : new int[] {MIN, -8, -1, 8, 9, 16, 32, 0x40000000, MAX}) {
            illegalArgument("digit(5, " + d + ") of two", () -> two.digit(5, d));
            illegalArgument("digit(511, " + d + ") of eight", () -> eight.digit(511, d));
        }
    }

    // ---- Promise 7: isAbove

    private static void promise7EqualDigitsAndOneThatIsGreater() {
        for (int d = 0; d < 8; d++) {
            ViewChooser x = withEightDimensions();
            int one = 128 >> d;
            due("0 above " + one, x.isAbove(0, one), true);
            due(one + " above 0", x.isAbove(one, 0), false);
            due("all but " + one + " above all", x.isAbove(255 - one, 255), true);
            due("all above all but " + one, x.isAbove(255, 255 - one), false);
            due(one + " above all but it", x.isAbove(one, 255 - one), false);
            due("all but it above " + one, x.isAbove(255 - one, one), false);
        }
    }

    private static void promise7DigitsFrom0To4() {
        for (int a = 0; a <= 4; a++) {
            ViewChooser x = withLevels(4, 4);
            for (int b = 0; b <= 4; b++) {
                due("digits " + a + ", 0 above " + b + ", 0", x.isAbove(5 * a, 5 * b), a <= b);
                due("digits 0, " + a + " above 0, " + b, x.isAbove(a, b), a <= b);
                due("digits " + a + ", 4 above " + b + ", 0", x.isAbove(5 * a + 4, 5 * b), false);
                due("digits " + a + ", 0 above " + b + ", 4", x.isAbove(5 * a, 5 * b + 4), a <= b);
            }
        }
    }

    private static void promise7TheFirstAndTheLastOf512() {
        ViewChooser x = with512Views();
        due("isAbove(0, 511)", x.isAbove(0, 511), true);
        due("isAbove(511, 0)", x.isAbove(511, 0), false);
        due("isAbove(511, 511)", x.isAbove(511, 511), true);
        due("isAbove(0, 0)", x.isAbove(0, 0), true);
    }

    private static void promise7NoSuchView() {
        ViewChooser six = withLevels(2, 1);
        ViewChooser most = with512Views();
        illegalArgument("isAbove(6, 5) of six", () -> six.isAbove(6, 5) ? 1 : 0);
        illegalArgument("isAbove(5, 6) of six", () -> six.isAbove(5, 6) ? 1 : 0);
        for (int view : new int[] {MIN, -1, 512, MAX}) {
            illegalArgument("isAbove(" + view + ", 5) of six", () -> six.isAbove(view, 5) ? 1 : 0);
            illegalArgument("isAbove(5, " + view + ") of six", () -> six.isAbove(5, view) ? 1 : 0);
            illegalArgument("isAbove(" + view + ", itself) of six", () -> six.isAbove(view, view) ? 1 : 0);
            illegalArgument("isAbove(" + view + ", 511) of 512", () -> most.isAbove(view, 511) ? 1 : 0);
            illegalArgument("isAbove(511, " + view + ") of 512", () -> most.isAbove(511, view) ? 1 : 0);
        }
    }

    // ---- Promise 8: told

    private static void promise8WhatIs0To2() {
        ViewChooser x = withValues(100, 40);
        due("told(0, 0)", x.told(0, 0), 40);
        due("told(0, 1)", x.told(0, 1), 100);
        due("told(0, 2)", x.told(0, 2), 120);
        for (int what : new int[] {MIN, -1, 3, 4, 256, MAX}) {
            illegalArgument("told(0, " + what + ")", () -> x.told(0, what));
            illegalArgument("told(1, " + what + ")", () -> x.told(1, what));
            illegalArgument("told(2, " + what + ")", () -> x.told(2, what));
        }
    }

    private static void promise8NoSuchView() {
        ViewChooser six = withLevels(2, 1);
        ViewChooser most = with512Views();
        for (int what = ESTIMATE; what <= BENEFIT; what++) {
            int w = what;
            due("told(5, " + what + ") of six", six.told(5, what), 0);
            due("told(511, " + what + ") of 512", most.told(511, what), 0);
            illegalArgument("told(6, " + what + ") of six", () -> six.told(6, w));
            for (int view : new int[] {MIN, -1, 512, MAX}) {
                illegalArgument("told(" + view + ", " + what + ") of six", () -> six.told(view, w));
                illegalArgument("told(" + view + ", " + what + ") of 512", () -> most.told(view, w));
            }
        }
    }

    private static void promise8TheGreatestBenefitAndTheLeast() {
        ViewChooser x = with512Views();
        x.facts(MAX);
        due("benefit of view 0 without values", x.told(0, BENEFIT), 512L * MAX);
        due("benefit of the last view", x.told(511, BENEFIT), MAX - 1L);
        due("cost of the last view", x.told(511, COST), MAX);
        x.take(0);
        due("cost of the last view after all is 0", x.told(511, COST), 0);
        due("benefit of the last view after all is 0", x.told(511, BENEFIT), 0);
        due("benefit of view 0 after it is chosen", x.told(0, BENEFIT), 0);
    }

    private static void promise8NoBenefitWithoutFacts() {
        ViewChooser x = withValues(0, 5, 0);
        for (int view = 0; view < 4; view++) {
            due("benefit of " + view, x.told(view, BENEFIT), 0);
        }
    }

    // ---- Promise 9: take

    private static void promise9SixteenAreAllowedASeventeenthIsNot() {
        ViewChooser x = withValues(100, 40);
        for (int i = 1; i <= 16; i++) {
            due("take(" + i % 2 + ") number " + i, x.take(i % 2), i);
        }
        illegalState("take(0) as the 17th", () -> x.take(0));
        illegalState("take(1) as the 17th", () -> x.take(1));
        due("drop()", x.drop(), 16);
        due("take(0) after drop()", x.take(0), 1);
    }

    private static void promise9WhateverItsBenefitIs() {
        ViewChooser x = withValues(100, 200);
        due("benefit of 0", x.told(0, BENEFIT), 0);
        due("take(0) without benefit", x.take(0), 1);
        due("chosen(0)", x.chosen(0), 0);
        due("take(0) of no facts", new ViewChooser().take(0), 1);
    }

    private static void promise9AlsoAgain() {
        ViewChooser x = takenTimes(2, 1, withValues(100, 40));
        due("chosen(0)", x.chosen(0), 1);
        due("chosen(1)", x.chosen(1), 1);
        due("cost of 1", x.told(1, COST), 1);
        due("cost of 0", x.told(0, COST), 100);
    }

    private static void promise9NoSuchView() {
        ViewChooser six = withLevels(2, 1);
        ViewChooser most = with512Views();
        due("take(5) of six", six.take(5), 1);
        due("take(511) of 512", most.take(511), 1);
        illegalArgument("take(6) of six", () -> six.take(6));
        for (int view : new int[] {MIN, -1, 512, MAX}) {
            illegalArgument("take(" + view + ") of six", () -> six.take(view));
            illegalArgument("take(" + view + ") of 512", () -> most.take(view));
        }
        due("drop() of six", six.drop(), 1);
        due("drop() of 512", most.drop(), 1);
    }

    private static void promise9AnArgumentIsRefusedBeforeTheState() {
        ViewChooser x = takenTimes(16, 0, withLevels(2, 1));
        for (int view : new int[] {MIN, -1, 6, 511, 512, MAX}) {
            illegalArgument("take(" + view + ") as the 17th", () -> x.take(view));
        }
        illegalState("take(5) as the 17th", () -> x.take(5));
    }

    // ---- Promise 10: step

    private static void promise10NoneIfTheBenefitIs0() {
        due("step() without facts", new ViewChooser().step(), ViewChooser.NONE);
        ViewChooser one = withValues(1, 1);
        due("step() of one fact", one.step(), ViewChooser.NONE);
        due("drop() after it", one.drop(), 0);
        ViewChooser two = withValues(2, 2);
        due("step() of a benefit of 1", two.step(), 1);
        due("step() of no benefit", two.step(), ViewChooser.NONE);
        due("drop() after them", two.drop(), 1);
    }

    private static void promise10TheLeastNumberOfEqualOnes() {
        ViewChooser x = withValues(100, 20, 20, 20);
        due("benefit of 3", x.told(3, BENEFIT), x.told(5, BENEFIT));
        due("benefit of 5", x.told(5, BENEFIT), x.told(6, BENEFIT));
        due("step()", x.step(), 3);
        due("step() again", x.step(), 5);
        due("step() at last", x.step(), 6);
    }

    private static void promise10TheGreatestBenefitAtTheEnds() {
        ViewChooser last = with512Views();
        last.facts(MILLION);
        last.values(0, 0, MILLION);
        last.values(0, 1, MILLION);
        last.values(0, 2, MILLION);
        for (int d = 1; d < 8; d++) {
            last.values(d, 0, MILLION);
        }
        due("step() with one of benefit", last.step(), 511);
        due("step() with none of benefit", last.step(), ViewChooser.NONE);
        ViewChooser first = with512Views();
        first.facts(MAX);
        due("step() with nothing but zeros", first.step(), 0);
        due("step() after it", first.step(), ViewChooser.NONE);
    }

    private static void promise10SixteenAre() {
        ViewChooser x = takenTimes(15, 0, withValues(100, 40));
        due("step() as the 16th", x.step(), 1);
        illegalState("step() as the 17th without benefit", () -> x.step());
        due("drop()", x.drop(), 16);
        ViewChooser y = takenTimes(16, 0, withValues(100, 40));
        due("benefit left", y.told(1, BENEFIT), 39);
        illegalState("step() as the 17th with benefit", () -> y.step());
        due("benefit still left", y.told(1, BENEFIT), 39);
        due("drop()", y.drop(), 16);
        ViewChooser z = takenTimes(15, 1, withValues(1, 1));
        due("step() as the 16th without benefit", z.step(), ViewChooser.NONE);
        due("drop()", z.drop(), 15);
    }

    // ---- Promise 11: choose

    private static void promise11From0To16() {
        for (int k = 0; k <= 16; k++) {
            ViewChooser x = withFallingValues(1000, 2, 2, 1);
            due("choose(" + k + ") of 18", x.choose(k), k);
            due("drop()", x.drop(), k);
        }
        for (int k : new int[] {MIN, -2, -1, 17, 18, 512, MAX}) {
            illegalArgument("choose(" + k + ") of none", () -> new ViewChooser().choose(k));
            illegalArgument("choose(" + k + ") of 16", () -> takenTimes(16, 0, new ViewChooser()).choose(k));
        }
    }

    private static void promise11NoneIsOfAnyBenefit() {
        due("choose(16) without facts", withValues(0, 5).choose(16), 0);
        due("choose(16) of 15 views", withFallingValues(1000, 4, 2).choose(16), 15);
        due("choose(16) of 16 views", withFallingValues(1000, 3, 3).choose(16), 16);
        due("choose(16) of 18 views", withFallingValues(1000, 2, 2, 1).choose(16), 16);
        due("choose(16) of 16, one without benefit", withFallingValues(16, 3, 3).choose(16), 15);
        due("choose(16) of 16, all of benefit", withFallingValues(17, 3, 3).choose(16), 16);
        due("choose(15) of 15 views", withFallingValues(1000, 4, 2).choose(15), 15);
    }

    private static void promise11AsManyOrMoreAreChosen() {
        for (int k = 0; k <= 16; k++) {
            ViewChooser x = takenTimes(k, 0, withValues(100, 40));
            due("choose(" + k + ") of as many", x.choose(k), k);
            due("choose(0) of " + k, x.choose(0), k);
            due("cost of 1", x.told(1, COST), k == 0 ? 100 : 40);
            due("drop()", x.drop(), k);
        }
        ViewChooser x = takenTimes(16, 0, withValues(100, 40));
        due("choose(15) of 16", x.choose(15), 16);
        due("choose(16) of 16 with benefit left", x.choose(16), 16);
        due("benefit left", x.told(1, BENEFIT), 39);
    }

    private static void promise11OneMoreThanAreChosen() {
        ViewChooser x = takenTimes(15, 0, withValues(100, 40));
        due("choose(16) of 15", x.choose(16), 16);
        due("chosen(14)", x.chosen(14), 0);
        due("chosen(15)", x.chosen(15), 1);
        ViewChooser y = takenTimes(15, 1, withValues(1, 1));
        due("choose(16) of 15 without benefit", y.choose(16), 15);
        illegalArgument("chosen(15) after it", () -> y.chosen(15));
    }

    // ---- Promise 12: chosen

    private static void promise12NoneSuch() {
        illegalArgument("chosen(0) of none", () -> withValues(100, 40).chosen(0));
        for (int many = 1; many <= 16; many++) {
            ViewChooser x = takenTimes(many - 1, 0, withValues(100, 40));
            int end = many;
            x.take(1);
            due("chosen(" + (many - 1) + ") of " + many, x.chosen(many - 1), 1);
            due("chosen(0) of " + many, x.chosen(0), many == 1 ? 1 : 0);
            illegalArgument("chosen(" + many + ") of " + many, () -> x.chosen(end));
            for (int i : new int[] {MIN, -16, -1, 16, 17, MAX}) {
                illegalArgument("chosen(" + i + ") of " + many, () -> x.chosen(i));
            }
        }
    }

    private static void promise12SixteenInTheirOrder() {
        ViewChooser x = with512Views();
        for (int i = 0; i < 16; i++) {
            x.take(511 - 34 * i);
        }
        for (int i = 0; i < 16; i++) {
            due("chosen(" + i + ")", x.chosen(i), 511 - 34 * i);
        }
    }

    private static void promise12NoneOfThoseThatWereDropped() {
        ViewChooser x = takenTimes(16, 1, withValues(100, 40));
        x.drop();
        illegalArgument("chosen(0) after drop()", () -> x.chosen(0));
        x.take(0);
        due("chosen(0) after another", x.chosen(0), 0);
        illegalArgument("chosen(1) after another", () -> x.chosen(1));
        illegalArgument("chosen(15) after another", () -> x.chosen(15));
    }

    private static void promise12NotTheStepThatChoseNone() {
        ViewChooser x = withValues(1, 1);
        x.step();
        illegalArgument("chosen(0) after NONE", () -> x.chosen(0));
    }

    // ---- Promise 13: drop

    private static void promise13HowManyWere() {
        due("drop() of a new one", new ViewChooser().drop(), 0);
        for (int many = 0; many <= 16; many++) {
            ViewChooser x = takenTimes(many, 1, withValues(100, 40));
            due("drop() of " + many, x.drop(), many);
            due("drop() again", x.drop(), 0);
        }
    }

    private static void promise13NothingIsChosenAnyMore() {
        ViewChooser x = takenTimes(16, 1, withValues(10, 5));
        x.drop();
        noneIsChosen(x, 10);
        due("values stay", x.values(0, 0, 5), 5);
        due("facts stay", x.facts(10), 10);
        due("views stay", x.views(), 2);
    }

    // ---- Promise 14: total

    private static void promise14FromNothingToTheMost() {
        due("total() of a new one", new ViewChooser().total(), 0);
        due("total() of 512 views without facts", with512Views().total(), 0);
        ViewChooser one = new ViewChooser();
        one.facts(MAX);
        due("total() of one view", one.total(), MAX);
        ViewChooser two = withLevels(1);
        two.facts(MAX);
        due("total() of two views, more than an int", two.total(), 2L * MAX);
        ViewChooser most = with512Views();
        most.facts(MAX);
        due("total() of 512 views", most.total(), 512L * MAX);
        most.take(511);
        due("total() with the last chosen", most.total(), 511L * MAX + 1);
        most.take(0);
        due("total() with the first chosen", most.total(), 0);
    }

    private static void promise14EveryViewCounts() {
        ViewChooser x = withValues(100, 30, 2);
        long[] totals = {400, 301, 203, 133, 93};
        int[] taken = {3, 2, 1, 0};
        due("total() of none chosen", x.total(), totals[0]);
        for (int i = 0; i < taken.length; i++) {
            x.take(taken[i]);
            due("total() after " + taken[i], x.total(), totals[i + 1]);
        }
    }

    public static void main(String[] args) {
        runAll(BoundaryTest.class);
    }
}
