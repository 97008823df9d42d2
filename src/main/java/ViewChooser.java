import java.util.Arrays;

/** Chooses summaries (views) one after the other, each time the one that saves most. */
public final class ViewChooser {
    /** There is none. */
    public static final int NONE = -1;

    private static final int MOST_DIMENSIONS = 8;
    private static final int MOST_LEVELS = 4;
    private static final int MOST_VIEWS = 512;
    private static final int MOST_VALUES = 1000000;
    private static final int MOST_CHOSEN = 16;

    private static final int ESTIMATE = 0;
    private static final int COST = 1;
    private static final int BENEFIT = 2;

    // A digit is at most 4, so of its four bits the uppermost is free; isAbovePacked borrows from it.
    private static final int DIGIT_BITS = 4;
    private static final int DIGIT_MASK = 15;
    private static final int FREE_BITS = 0x88888888;

    private final int[] levelCounts;
    private final int[] valueCounts;
    private final int[] packedDigits;
    private final long[] costs;
    private final int[] chosenViews;
    private int dimensionCount;
    private int viewCount;
    private int factCount;
    private int chosenCount;

    public ViewChooser() {
        levelCounts = new int[MOST_DIMENSIONS];
        valueCounts = new int[MOST_DIMENSIONS * MOST_LEVELS];
        packedDigits = new int[MOST_VIEWS];
        costs = new long[MOST_VIEWS];
        chosenViews = new int[MOST_CHOSEN];
        dimensionCount = 0;
        viewCount = 1;
        factCount = 0;
        chosenCount = 0;
    }

    public int dimension(int levels) throws IllegalArgumentException, IllegalStateException {
        if (levels < 1 || levels > MOST_LEVELS) {
            throw new IllegalArgumentException("levels are not 1 .. 4");
        }
        if (dimensionCount >= MOST_DIMENSIONS) {
            throw new IllegalStateException("there are 8 dimensions");
        }
        if (viewCount * (levels + 1) > MOST_VIEWS) {
            throw new IllegalStateException("there would be more than 512 views");
        }
        int added = dimensionCount;
        splitViews(added, levels + 1);
        levelCounts[added] = levels;
        dimensionCount = added + 1;
        forgetChosen();
        return added;
    }

    public int values(int dimension, int level, int n) throws IllegalArgumentException {
        checkDimension(dimension);
        if (level < 0 || level >= levelCounts[dimension]) {
            throw new IllegalArgumentException("there is no such level");
        }
        if (n < 0 || n > MOST_VALUES) {
            throw new IllegalArgumentException("n is not 0 .. 1000000");
        }
        int place = dimension * MOST_LEVELS + level;
        int before = valueCounts[place];
        valueCounts[place] = n;
        forgetChosen();
        return before;
    }

    public int facts(int n) throws IllegalArgumentException {
        if (n < 0) {
            throw new IllegalArgumentException("n is below 0");
        }
        int before = factCount;
        factCount = n;
        forgetChosen();
        return before;
    }

    public int views() {
        return viewCount;
    }

    public int digit(int view, int dimension) throws IllegalArgumentException {
        checkView(view);
        checkDimension(dimension);
        return unpackDigit(packedDigits[view], dimension);
    }

    public boolean isAbove(int view, int other) throws IllegalArgumentException {
        checkView(view);
        checkView(other);
        return isAbovePacked(packedDigits[view], packedDigits[other]);
    }

    public long told(int view, int what) throws IllegalArgumentException {
        checkView(view);
        switch (what) {
            case ESTIMATE:
                return estimateOf(view);
            case COST:
                return costs[view];
            case BENEFIT:
                return benefitOf(view);
            default:
                throw new IllegalArgumentException("what is not 0 .. 2");
        }
    }

    public int take(int view) throws IllegalArgumentException, IllegalStateException {
        checkView(view);
        checkRoomForChosen();
        addChosen(view);
        return chosenCount;
    }

    public int step() throws IllegalStateException {
        checkRoomForChosen();
        int best = mostBeneficial();
        if (best != NONE) {
            addChosen(best);
        }
        return best;
    }

    public int choose(int k) throws IllegalArgumentException {
        if (k < 0 || k > MOST_CHOSEN) {
            throw new IllegalArgumentException("k is not 0 .. 16");
        }
        for (int i = chosenCount; i < k; i++) {
            int best = mostBeneficial();
            if (best == NONE) {
                break;
            }
            addChosen(best);
        }
        return chosenCount;
    }

    public int chosen(int i) throws IllegalArgumentException {
        if (i < 0 || i >= chosenCount) {
            throw new IllegalArgumentException("there is no such chosen view");
        }
        return chosenViews[i];
    }

    public int drop() {
        int before = chosenCount;
        forgetChosen();
        return before;
    }

    public long total() {
        long sum = 0;
        for (int view = 0; view < viewCount; view++) {
            sum += costs[view];
        }
        return sum;
    }

    private void checkView(int view) {
        if (view < 0 || view >= viewCount) {
            throw new IllegalArgumentException("there is no such view");
        }
    }

    private void checkDimension(int dimension) {
        if (dimension < 0 || dimension >= dimensionCount) {
            throw new IllegalArgumentException("there is no such dimension");
        }
    }

    private void checkRoomForChosen() {
        if (chosenCount >= MOST_CHOSEN) {
            throw new IllegalStateException("16 views are chosen");
        }
    }

    /**
     * Makes of each view as many as the new dimension has digits. It goes from the last view
     * to the first, so that no view is written over before it has been split.
     */
    private void splitViews(int dimension, int digits) {
        for (int view = viewCount - 1; view >= 0; view--) {
            int packed = packedDigits[view];
            for (int digit = 0; digit < digits; digit++) {
                packedDigits[view * digits + digit] = packed | digit << dimension * DIGIT_BITS;
            }
        }
        viewCount = viewCount * digits;
    }

    private void forgetChosen() {
        chosenCount = 0;
        Arrays.fill(costs, factCount);
    }

    /** The caller has seen that there is room. */
    private void addChosen(int view) {
        chosenViews[chosenCount] = view;
        chosenCount++;
        long estimate = estimateOf(view);
        int packed = packedDigits[view];
        // A view is above none with a lesser number than its own.
        for (int other = view; other < viewCount; other++) {
            if (costs[other] > estimate && isAbovePacked(packed, packedDigits[other])) {
                costs[other] = estimate;
            }
        }
    }

    private int mostBeneficial() {
        int best = NONE;
        long most = 0;
        for (int view = 0; view < viewCount; view++) {
            long benefit = benefitOf(view);
            if (benefit > most) {
                most = benefit;
                best = view;
            }
        }
        return best;
    }

    private long benefitOf(int view) {
        long estimate = estimateOf(view);
        int packed = packedDigits[view];
        long sum = 0;
        // A view is above none with a lesser number than its own.
        for (int other = view; other < viewCount; other++) {
            if (costs[other] > estimate && isAbovePacked(packed, packedDigits[other])) {
                sum += costs[other] - estimate;
            }
        }
        return sum;
    }

    /**
     * The product is cut to the facts after each factor: so it stays within a long, and a
     * later factor of 0 still makes it 0.
     */
    private long estimateOf(int view) {
        int packed = packedDigits[view];
        long product = Math.min(1, factCount);
        for (int dimension = 0; dimension < dimensionCount; dimension++) {
            int digit = unpackDigit(packed, dimension);
            if (digit < levelCounts[dimension]) {
                product = Math.min(product * valueCounts[dimension * MOST_LEVELS + digit], (long) factCount);
            }
        }
        return product;
    }

    private static int unpackDigit(int packed, int dimension) {
        return packed >>> dimension * DIGIT_BITS & DIGIT_MASK;
    }

    /** All digits are compared at once: a free bit is used up where the upper digit is the greater one. */
    private static boolean isAbovePacked(int upper, int lower) {
        return ((lower | FREE_BITS) - upper & FREE_BITS) == FREE_BITS;
    }
}
