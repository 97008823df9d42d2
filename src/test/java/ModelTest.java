import java.math.BigInteger;
import java.util.ArrayList;
import java.util.List;
import java.util.Random;

/**
 * Long runs of calls on the class and on a model that does nothing but what the terms of the
 * document say, with no short cuts: every answer must be the same. The seeds are fixed.
 */
public final class ModelTest {
    private static final int CALLS = 512;
    private static final int RUNS = 150;
    private static final int[] ODD = {Integer.MIN_VALUE, -1, 16, 17, 511, 512, 1000001, Integer.MAX_VALUE};

    /** The document's words, as plainly as they can be written. */
    private static final class Model {
        private final List<int[]> dimensions = new ArrayList<>();
        private final List<Integer> picked = new ArrayList<>();
        private int facts = 0;

        private static void argument(boolean ok) {
            if (!ok) {
                throw new IllegalArgumentException();
            }
        }

        private static void state(boolean ok) {
            if (!ok) {
                throw new IllegalStateException();
            }
        }

        private int views() {
            int n = 1;
            for (int[] levels : dimensions) {
                n *= levels.length + 1;
            }
            return n;
        }

        private int[] digits(int view) {
            int[] digits = new int[dimensions.size()];
            for (int d = digits.length - 1; d >= 0; d--) {
                int base = dimensions.get(d).length + 1;
                digits[d] = view % base;
                view /= base;
            }
            return digits;
        }

        private boolean above(int[] upper, int[] lower) {
            for (int d = 0; d < upper.length; d++) {
                if (upper[d] > lower[d]) {
                    return false;
                }
            }
            return true;
        }

        private long estimate(int[] digits) {
            BigInteger product = BigInteger.ONE;
            for (int d = 0; d < digits.length; d++) {
                int[] levels = dimensions.get(d);
                if (digits[d] < levels.length) {
                    product = product.multiply(BigInteger.valueOf(levels[digits[d]]));
                }
            }
            return product.min(BigInteger.valueOf(facts)).longValueExact();
        }

        private long cost(int view) {
            long least = facts;
            for (int other : picked) {
                if (above(digits(other), digits(view))) {
                    least = Math.min(least, estimate(digits(other)));
                }
            }
            return least;
        }

        private long[] costs() {
            long[] costs = new long[views()];
            for (int view = 0; view < costs.length; view++) {
                costs[view] = cost(view);
            }
            return costs;
        }

        private long benefit(int view, long[] costs, int[][] digits) {
            long estimate = estimate(digits[view]);
            long sum = 0;
            for (int other = 0; other < costs.length; other++) {
                if (above(digits[view], digits[other]) && costs[other] > estimate) {
                    sum += costs[other] - estimate;
                }
            }
            return sum;
        }

        private int[][] allDigits() {
            int[][] all = new int[views()][];
            for (int view = 0; view < all.length; view++) {
                all[view] = digits(view);
            }
            return all;
        }

        private int best() {
            long[] costs = costs();
            int[][] digits = allDigits();
            int best = -1;
            long most = 0;
            for (int view = costs.length - 1; view >= 0; view--) {
                long benefit = benefit(view, costs, digits);
                if (benefit > 0 && benefit >= most) {
                    most = benefit;
                    best = view;
                }
            }
            return best;
        }

        private void view(int view) {
            argument(view >= 0 && view < views());
        }

        long dimension(int levels) {
            argument(levels >= 1 && levels <= 4);
            state(dimensions.size() < 8);
            state(views() * (levels + 1) <= 512);
            dimensions.add(new int[levels]);
            picked.clear();
            return dimensions.size() - 1;
        }

        long values(int dimension, int level, int n) {
            argument(dimension >= 0 && dimension < dimensions.size());
            int[] levels = dimensions.get(dimension);
            argument(level >= 0 && level < levels.length);
            argument(n >= 0 && n <= 1000000);
            int before = levels[level];
            levels[level] = n;
            picked.clear();
            return before;
        }

        long facts(int n) {
            argument(n >= 0);
            int before = facts;
            facts = n;
            picked.clear();
            return before;
        }

        long digit(int view, int dimension) {
            view(view);
            argument(dimension >= 0 && dimension < dimensions.size());
            return digits(view)[dimension];
        }

        long isAbove(int view, int other) {
            view(view);
            view(other);
            return above(digits(view), digits(other)) ? 1 : 0;
        }

        long told(int view, int what) {
            view(view);
            argument(what >= 0 && what <= 2);
            if (what == 0) {
                return estimate(digits(view));
            }
            return what == 1 ? cost(view) : benefit(view, costs(), allDigits());
        }

        long take(int view) {
            view(view);
            state(picked.size() < 16);
            picked.add(view);
            return picked.size();
        }

        long step() {
            state(picked.size() < 16);
            int best = best();
            if (best >= 0) {
                picked.add(best);
            }
            return best;
        }

        long choose(int k) {
            argument(k >= 0 && k <= 16);
            while (picked.size() < k && step() >= 0) {
                continue;
            }
            return picked.size();
        }

        long chosen(int i) {
            argument(i >= 0 && i < picked.size());
            return picked.get(i);
        }

        long drop() {
            int before = picked.size();
            picked.clear();
            return before;
        }

        long total() {
            long sum = 0;
            for (long cost : costs()) {
                sum += cost;
            }
            return sum;
        }
    }

    private static long ofModel(Model m, int[] c) {
        switch (c[0]) {
            case Calls.DIMENSION: return m.dimension(c[1]);
            case Calls.VALUES: return m.values(c[1], c[2], c[3]);
            case Calls.FACTS: return m.facts(c[1]);
            case Calls.VIEWS: return m.views();
            case Calls.DIGIT: return m.digit(c[1], c[2]);
            case Calls.IS_ABOVE: return m.isAbove(c[1], c[2]);
            case Calls.TOLD: return m.told(c[1], c[2]);
            case Calls.TAKE: return m.take(c[1]);
            case Calls.STEP: return m.step();
            case Calls.CHOOSE: return m.choose(c[1]);
            case Calls.CHOSEN: return m.chosen(c[1]);
            case Calls.DROP: return m.drop();
            default: return m.total();
        }
    }

    private static String modelAnswer(Model m, int[] c) {
        try {
            return Long.toString(ofModel(m, c));
        } catch (IllegalArgumentException | IllegalStateException e) {
            return "throws." + e.getClass().getSimpleName();
        }
    }

    private static int upTo(Random random, int bound) {
        return random.nextInt(20) == 0 ? ODD[random.nextInt(ODD.length)] : random.nextInt(bound);
    }

    /** A number of any size, small and great ones alike. */
    private static int amount(Random random, int most) {
        int bits = random.nextInt(32);
        int n = (int) (random.nextInt() & (1L << bits) - 1) & Integer.MAX_VALUE;
        return random.nextInt(20) == 0 ? ODD[random.nextInt(ODD.length)] : Math.min(n, most);
    }

    private static int[] nextCall(Random random, Model m, boolean settled) {
        int views = m.views() + (random.nextInt(10) == 0 ? 1 : 0);
        int dimensions = m.dimensions.size() + 1;
        // Once settled, a run seldom tells anything, so that many views are chosen.
        int kind = settled && random.nextInt(8) != 0 ? Calls.VIEWS + random.nextInt(10) : random.nextInt(13);
        if (kind == Calls.DROP && random.nextInt(3) != 0) {
            kind = Calls.TOLD;
        }
        switch (kind) {
            case Calls.DIMENSION: return Calls.call(Calls.DIMENSION, upTo(random, 6));
            case Calls.VALUES: return Calls.call(Calls.VALUES, upTo(random, dimensions), upTo(random, 5), amount(random, 1000000));
            case Calls.FACTS: return Calls.call(Calls.FACTS, amount(random, Integer.MAX_VALUE));
            case Calls.DIGIT: return Calls.call(Calls.DIGIT, upTo(random, views), upTo(random, dimensions));
            case Calls.IS_ABOVE: return Calls.call(Calls.IS_ABOVE, upTo(random, views), upTo(random, views));
            case Calls.TOLD: return Calls.call(Calls.TOLD, upTo(random, views), upTo(random, 3));
            case Calls.TAKE: return Calls.call(Calls.TAKE, upTo(random, views));
            case Calls.CHOOSE: return Calls.call(Calls.CHOOSE, upTo(random, 17));
            case Calls.CHOSEN: return Calls.call(Calls.CHOSEN, upTo(random, 17));
            default: return Calls.call(kind);
        }
    }

    /** Half of the runs begin with dimensions, values and facts told, so that there is much to choose from. */
    private static List<int[]> opening(Random random) {
        List<int[]> calls = new ArrayList<>();
        if (random.nextBoolean()) {
            return calls;
        }
        int most = 1 + random.nextInt(4);
        calls.add(Calls.call(Calls.FACTS, amount(random, Integer.MAX_VALUE)));
        for (int d = 0; d < 8; d++) {
            int levels = 1 + random.nextInt(most);
            calls.add(Calls.call(Calls.DIMENSION, levels));
            for (int level = 0; level < levels; level++) {
                calls.add(Calls.call(Calls.VALUES, d, level, 1 + random.nextInt(1 + (40 >> level))));
            }
        }
        return calls;
    }

    private static boolean runIsRight(int seed) {
        Random random = new Random(seed);
        ViewChooser x = new ViewChooser();
        Model m = new Model();
        List<int[]> opening = opening(random);
        boolean settled = random.nextBoolean() && !opening.isEmpty();
        for (int i = 0; i < CALLS; i++) {
            int[] call = i < opening.size() ? opening.get(i) : nextCall(random, m, settled);
            String want = modelAnswer(m, call);
            String got = Calls.answer(x, call);
            if (!want.equals(got)) {
                System.out.println("seed " + seed + ", call " + i + " " + Calls.text(call)
                    + " answered " + got + ", due is " + want);
                return false;
            }
        }
        return true;
    }

    public static void main(String[] args) {
        int wrong = 0;
        for (int seed = 1; seed <= RUNS; seed++) {
            if (!runIsRight(seed)) {
                wrong++;
            }
        }
        System.out.println(wrong == 0 ? RUNS + " runs are as due" : wrong + " runs are not as due");
        if (wrong != 0) {
            System.exit(1);
        }
    }
}
