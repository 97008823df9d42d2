/** For each promise of the document: ordinary inputs, the edges that it names, and wrong inputs. */
public final class PromisesTest extends Check {
    /** 100 facts; dimension 0 has levels of 50 and 5 values, dimension 1 one of 10. */
    private static ViewChooser shop() {
        ViewChooser x = new ViewChooser();
        x.dimension(2);
        x.dimension(1);
        x.facts(100);
        x.values(0, 0, 50);
        x.values(0, 1, 5);
        x.values(1, 0, 10);
        return x;
    }

    /** One dimension with a level of 3 values, 10 facts, 16 chosen. */
    private static ViewChooser full() {
        ViewChooser x = new ViewChooser();
        x.dimension(1);
        x.facts(10);
        x.values(0, 0, 3);
        for (int i = 0; i < 16; i++) {
            due("take(0), call " + i, x.take(0), i + 1);
        }
        return x;
    }

    private static void promise1New() {
        ViewChooser x = new ViewChooser();
        due("new: NONE", ViewChooser.NONE, -1);
        due("new: views()", x.views(), 1);
        illegalArgument("new: digit(0, 0)", () -> x.digit(0, 0));
        illegalArgument("new: chosen(0)", () -> x.chosen(0));
        due("new: total()", x.total(), 0);
        due("new: step()", x.step(), ViewChooser.NONE);
        due("new: drop()", x.drop(), 0);
        due("new: facts(7)", x.facts(7), 0);
        due("new: dimension(1)", x.dimension(1), 0);
        due("new: values(0, 0, 7)", x.values(0, 0, 7), 0);
    }

    private static void promise2Dimension() {
        ViewChooser x = new ViewChooser();
        int[] bad = {MIN, -1, 0, 5, MAX};
        for (int levels : bad) {
            illegalArgument("dimension(" + levels + ")", () -> x.dimension(levels));
        }
        due("views() after illegal ones", x.views(), 1);
        for (int i = 0; i < 8; i++) {
            due("dimension(1)", x.dimension(1), i);
        }
        due("views() of eight dimensions", x.views(), 256);
        illegalState("a ninth dimension of 256 views", () -> x.dimension(1));
        illegalArgument("a ninth dimension of 0 levels", () -> x.dimension(0));
        illegalArgument("a ninth dimension of 5 levels", () -> x.dimension(5));
        due("views() after a ninth", x.views(), 256);
        fiveHundredAndTwelveViews();
        tooManyViewsChangeNothing();
        eachCountOfLevels();
    }

    private static void fiveHundredAndTwelveViews() {
        ViewChooser x = new ViewChooser();
        for (int i = 0; i < 7; i++) {
            x.dimension(1);
        }
        illegalState("640 views", () -> x.dimension(4));
        due("512 views", x.dimension(3), 7);
        due("views() of 512", x.views(), 512);
        due("digit(511, 7)", x.digit(511, 7), 3);
        due("digit(511, 0)", x.digit(511, 0), 1);
        illegalArgument("digit(512, 0)", () -> x.digit(512, 0));
        ViewChooser y = new ViewChooser();
        for (int i = 0; i < 4; i++) {
            y.dimension(3);
        }
        due("512 views of five dimensions", y.dimension(1), 4);
        illegalState("1024 views", () -> y.dimension(1));
    }

    private static void tooManyViewsChangeNothing() {
        ViewChooser x = new ViewChooser();
        x.dimension(4);
        x.dimension(4);
        x.dimension(4);
        x.facts(9);
        x.take(124);
        illegalState("625 views", () -> x.dimension(4));
        illegalArgument("no levels", () -> x.dimension(0));
        due("views() after 625", x.views(), 125);
        due("chosen(0) after 625", x.chosen(0), 124);
        due("cost after 625", x.told(124, 1), 1);
        illegalArgument("digit(0, 3) after 625", () -> x.digit(0, 3));
        due("500 views", x.dimension(3), 3);
        illegalArgument("chosen(0) after a dimension", () -> x.chosen(0));
        due("total() after a dimension", x.total(), 4500);
    }

    private static void eachCountOfLevels() {
        for (int levels = 1; levels <= 4; levels++) {
            ViewChooser x = new ViewChooser();
            due("dimension(" + levels + ")", x.dimension(levels), 0);
            due("views() of " + levels + " levels", x.views(), levels + 1);
            int last = levels;
            due("values of the last level", x.values(0, last - 1, 2), 0);
            illegalArgument("values of one level more", () -> x.values(0, last, 2));
        }
    }

    private static void promise3Values() {
        ViewChooser x = shop();
        due("values(0, 0, 51)", x.values(0, 0, 51), 50);
        due("values(0, 0, 0)", x.values(0, 0, 0), 51);
        due("values(0, 0, 1000000)", x.values(0, 0, 1000000), 0);
        due("values(0, 1, 6)", x.values(0, 1, 6), 5);
        due("values(1, 0, 11)", x.values(1, 0, 11), 10);
        x.take(2);
        int[][] bad = {
            {-1, 0, 1}, {2, 0, 1}, {8, 0, 1}, {MAX, 0, 1}, {MIN, 0, 1},
            {0, -1, 1}, {0, 2, 1}, {1, 1, 1}, {0, MAX, 1}, {0, MIN, 1},
            {0, 0, -1}, {0, 0, 1000001}, {0, 0, MAX}, {0, 0, MIN},
        };
        for (int[] b : bad) {
            illegalArgument("values(" + b[0] + ", " + b[1] + ", " + b[2] + ")", () -> x.values(b[0], b[1], b[2]));
        }
        due("chosen(0) after illegal values", x.chosen(0), 2);
        due("values(0, 0, ..) after illegal values", x.values(0, 0, 1000000), 1000000);
        illegalArgument("chosen(0) after the same values again", () -> x.chosen(0));
        due("values stay when a dimension comes", x.dimension(1), 2);
        due("values(0, 1, 6) after a dimension", x.values(0, 1, 6), 6);
        due("values(2, 0, 1) of a new dimension", x.values(2, 0, 1), 0);
    }

    private static void promise4Facts() {
        ViewChooser x = shop();
        due("facts(101)", x.facts(101), 100);
        due("facts(max)", x.facts(MAX), 101);
        due("facts(0)", x.facts(0), MAX);
        x.facts(100);
        x.take(5);
        illegalArgument("facts(-1)", () -> x.facts(-1));
        illegalArgument("facts(min)", () -> x.facts(MIN));
        due("chosen(0) after illegal facts", x.chosen(0), 5);
        due("cost after illegal facts", x.told(5, 1), 1);
        due("the same facts", x.facts(100), 100);
        illegalArgument("chosen(0) after the same facts", () -> x.chosen(0));
        due("cost after the same facts", x.told(5, 1), 100);
    }

    private static void promise5Views() {
        ViewChooser x = new ViewChooser();
        due("views() of none", x.views(), 1);
        x.dimension(4);
        due("views() of 4", x.views(), 5);
        x.dimension(2);
        due("views() of 4, 2", x.views(), 15);
        x.dimension(1);
        due("views() of 4, 2, 1", x.views(), 30);
        x.take(29);
        x.drop();
        due("views() after take and drop", x.views(), 30);
    }

    private static void promise6Digit() {
        ViewChooser x = new ViewChooser();
        x.dimension(4);
        x.dimension(2);
        x.dimension(1);
        int view = 0;
        for (int a = 0; a <= 4; a++) {
            for (int b = 0; b <= 2; b++) {
                for (int c = 0; c <= 1; c++) {
                    due("digit(" + view + ", 0)", x.digit(view, 0), a);
                    due("digit(" + view + ", 1)", x.digit(view, 1), b);
                    due("digit(" + view + ", 2)", x.digit(view, 2), c);
                    view++;
                }
            }
        }
        int[][] bad = {{-1, 0}, {30, 0}, {512, 0}, {MIN, 0}, {MAX, 0},
            {0, -1}, {0, 3}, {0, 8}, {0, MIN}, {0, MAX}};
        for (int[] b : bad) {
            illegalArgument("digit(" + b[0] + ", " + b[1] + ")", () -> x.digit(b[0], b[1]));
        }
    }

    private static void promise7IsAbove() {
        ViewChooser x = new ViewChooser();
        x.dimension(2);
        x.dimension(3);
        for (int view = 0; view < 12; view++) {
            for (int other = 0; other < 12; other++) {
                boolean want = view / 4 <= other / 4 && view % 4 <= other % 4;
                due("isAbove(" + view + ", " + other + ")", x.isAbove(view, other), want);
            }
        }
        due("isAbove(0, 0) of no dimensions", new ViewChooser().isAbove(0, 0), true);
        int[] bad = {-1, 12, 511, 512, MIN, MAX};
        for (int b : bad) {
            illegalArgument("isAbove(" + b + ", 0)", () -> x.isAbove(b, 0) ? 1 : 0);
            illegalArgument("isAbove(0, " + b + ")", () -> x.isAbove(0, b) ? 1 : 0);
        }
    }

    private static void promise8Told() {
        ViewChooser x = shop();
        long[] estimates = {100, 50, 50, 5, 10, 1};
        // Nothing is chosen: every cost is 100, and a view is above 6, 3, 4, 2, 2, 1 of them.
        long[] benefits = {0, 150, 200, 190, 180, 99};
        for (int view = 0; view < 6; view++) {
            due("estimate of " + view, x.told(view, 0), estimates[view]);
            due("cost of " + view, x.told(view, 1), 100);
            due("benefit of " + view, x.told(view, 2), benefits[view]);
        }
        x.take(2);
        x.take(4);
        long[] costs = {100, 100, 50, 50, 10, 10};
        long[] lesser = {0, 50, 0, 50, 0, 9};
        for (int view = 0; view < 6; view++) {
            due("estimate of " + view + " after 2 and 4", x.told(view, 0), estimates[view]);
            due("cost of " + view + " after 2 and 4", x.told(view, 1), costs[view]);
            due("benefit of " + view + " after 2 and 4", x.told(view, 2), lesser[view]);
        }
        int[][] bad = {{-1, 0}, {6, 0}, {6, 1}, {6, 2}, {512, 1}, {MAX, 2}, {MIN, 2},
            {0, -1}, {0, 3}, {0, MAX}, {0, MIN}};
        for (int[] b : bad) {
            illegalArgument("told(" + b[0] + ", " + b[1] + ")", () -> x.told(b[0], b[1]));
        }
        greatProducts();
        viewsWithoutDimensions();
        coarserLevelsMayHaveMoreValues();
    }

    private static void greatProducts() {
        ViewChooser x = new ViewChooser();
        x.facts(MAX);
        for (int i = 0; i < 8; i++) {
            x.dimension(1);
            x.values(i, 0, 1000000);
        }
        due("a product of 10 to the 48th", x.told(0, 0), MAX);
        due("total of the most facts", x.total(), 256L * MAX);
        due("benefit of a million at the most facts", x.told(127, 2), 2L * (MAX - 1000000));
        x.values(7, 0, 0);
        due("a great product times 0", x.told(0, 0), 0);
        due("a great product without the 0", x.told(1, 0), MAX);
        due("benefit of an estimate of 0", x.told(0, 2), 256L * MAX);
        x.values(0, 0, 0);
        x.values(7, 0, 1000000);
        due("0 times a great product", x.told(0, 0), 0);
        // 65536 to the 4th is 2 to the 64th, which is 0 where a product wraps around.
        ViewChooser y = new ViewChooser();
        y.facts(1000);
        for (int i = 0; i < 4; i++) {
            y.dimension(1);
            y.values(i, 0, 65536);
        }
        due("a product of 2 to the 64th", y.told(0, 0), 1000);
    }

    private static void viewsWithoutDimensions() {
        ViewChooser x = new ViewChooser();
        due("estimate of no facts", x.told(0, 0), 0);
        x.facts(1);
        due("estimate of one fact", x.told(0, 0), 1);
        due("benefit at one fact", x.told(0, 2), 0);
        x.facts(40);
        due("estimate of 40 facts", x.told(0, 0), 1);
        due("cost at 40 facts", x.told(0, 1), 40);
        due("benefit at 40 facts", x.told(0, 2), 39);
    }

    private static void coarserLevelsMayHaveMoreValues() {
        ViewChooser x = new ViewChooser();
        x.dimension(2);
        x.facts(100);
        x.values(0, 0, 10);
        x.values(0, 1, 60);
        x.take(1);
        x.take(0);
        x.take(1);
        due("cost is the least of all chosen above", x.told(1, 1), 10);
        due("cost of the view without the dimension", x.told(2, 1), 10);
        due("benefit of a greater estimate", x.told(1, 2), 0);
    }

    private static void promise9Take() {
        ViewChooser x = shop();
        due("take(5)", x.take(5), 1);
        due("take(0) without benefit", x.take(0), 2);
        due("take(5) again", x.take(5), 3);
        due("chosen(0)", x.chosen(0), 5);
        due("chosen(1)", x.chosen(1), 0);
        due("chosen(2)", x.chosen(2), 5);
        due("cost of 5", x.told(5, 1), 1);
        due("cost of 4", x.told(4, 1), 100);
        int[] bad = {-1, 6, 512, MIN, MAX};
        for (int b : bad) {
            illegalArgument("take(" + b + ")", () -> x.take(b));
        }
        due("drop() after illegal ones", x.drop(), 3);
        ViewChooser y = full();
        illegalState("take(1) of the 17th", () -> y.take(1));
        illegalArgument("take(2) of the 17th", () -> y.take(2));
        due("cost after the 17th", y.told(1, 1), 3);
        due("drop() after the 17th", y.drop(), 16);
    }

    private static void promise10Step() {
        ViewChooser x = shop();
        int[] want = {2, 3, 1, 4, 5, ViewChooser.NONE, ViewChooser.NONE};
        for (int i = 0; i < want.length; i++) {
            due("step number " + i, x.step(), want[i]);
        }
        due("drop() after steps", x.drop(), 5);
        equalBenefits();
        ViewChooser y = full();
        due("benefit left", y.told(1, 2), 2);
        illegalState("step() of the 17th", () -> y.step());
        due("drop() after it", y.drop(), 16);
        ViewChooser z = new ViewChooser();
        for (int i = 0; i < 16; i++) {
            z.take(0);
        }
        illegalState("step() of the 17th without benefit", () -> z.step());
    }

    private static void equalBenefits() {
        ViewChooser x = new ViewChooser();
        x.dimension(1);
        x.dimension(1);
        x.facts(100);
        x.values(0, 0, 20);
        x.values(1, 0, 20);
        due("benefit of 1", x.told(1, 2), 160);
        due("benefit of 2", x.told(2, 2), 160);
        due("step() of equal ones", x.step(), 1);
        due("step() of one that is left", x.step(), 2);
        ViewChooser y = new ViewChooser();
        y.facts(5);
        due("step() of the only view", y.step(), 0);
        due("step() of no benefit", y.step(), ViewChooser.NONE);
    }

    private static void promise11Choose() {
        ViewChooser x = shop();
        due("choose(0)", x.choose(0), 0);
        due("choose(2)", x.choose(2), 2);
        due("chosen(0)", x.chosen(0), 2);
        due("chosen(1)", x.chosen(1), 3);
        due("choose(2) again", x.choose(2), 2);
        due("choose(1) of fewer", x.choose(1), 2);
        due("choose(3)", x.choose(3), 3);
        due("chosen(2)", x.chosen(2), 1);
        illegalArgument("choose(-1)", () -> x.choose(-1));
        illegalArgument("choose(17)", () -> x.choose(17));
        illegalArgument("choose(min)", () -> x.choose(MIN));
        illegalArgument("choose(max)", () -> x.choose(MAX));
        due("choose(16) until no benefit", x.choose(16), 5);
        due("total() after choose(16)", x.total(), 100 + 50 + 50 + 5 + 10 + 1);
        ViewChooser y = full();
        due("choose(16) of 16", y.choose(16), 16);
        due("choose(0) of 16", y.choose(0), 16);
        illegalArgument("choose(17) of 16", () -> y.choose(17));
        sixteenOfMany();
    }

    private static void sixteenOfMany() {
        ViewChooser x = new ViewChooser();
        x.facts(1000000);
        for (int i = 0; i < 5; i++) {
            x.dimension(1);
            x.values(i, 0, i + 2);
        }
        due("choose(16) of 32 views", x.choose(16), 16);
        due("choose(16) again", x.choose(16), 16);
        illegalState("step() after choose(16)", () -> x.step());
    }

    private static void promise12Chosen() {
        ViewChooser x = shop();
        illegalArgument("chosen(0) of none", () -> x.chosen(0));
        x.take(4);
        // Now views 1, 2 and 3 are of equal benefit.
        x.step();
        due("chosen(0)", x.chosen(0), 4);
        due("chosen(1)", x.chosen(1), 1);
        int[] bad = {-1, 2, 15, 16, MIN, MAX};
        for (int b : bad) {
            illegalArgument("chosen(" + b + ")", () -> x.chosen(b));
        }
        ViewChooser y = full();
        due("chosen(15) of 16", y.chosen(15), 0);
        illegalArgument("chosen(16) of 16", () -> y.chosen(16));
        y.drop();
        illegalArgument("chosen(0) after drop()", () -> y.chosen(0));
    }

    private static void promise13Drop() {
        ViewChooser x = shop();
        due("drop() of none", x.drop(), 0);
        x.choose(3);
        due("drop() of three", x.drop(), 3);
        due("drop() again", x.drop(), 0);
        due("cost after drop()", x.told(5, 1), 100);
        due("benefit after drop()", x.told(2, 2), 200);
        due("step() after drop()", x.step(), 2);
        due("values stay after drop()", x.values(0, 0, 50), 50);
        due("facts stay after drop()", x.facts(100), 100);
    }

    private static void promise14Total() {
        ViewChooser x = shop();
        due("total() of none chosen", x.total(), 600);
        long benefit = x.told(2, 2);
        x.take(2);
        due("total() falls by the benefit", x.total(), 600 - benefit);
        x.take(0);
        due("total() after one without benefit", x.total(), 600 - benefit);
        x.choose(16);
        due("total() of all of benefit", x.total(), 216);
        x.drop();
        due("total() after drop()", x.total(), 600);
        x.facts(0);
        due("total() of no facts", x.total(), 0);
        x.facts(MAX);
        due("total() of the most facts", x.total(), 6L * MAX);
    }

    public static void main(String[] args) {
        runAll(PromisesTest.class);
    }
}
