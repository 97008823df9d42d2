import java.util.Arrays;

/** A call as numbers, its method and its arguments, so that the same run can be made on several objects. */
final class Calls {
    static final int DIMENSION = 0;
    static final int VALUES = 1;
    static final int FACTS = 2;
    static final int VIEWS = 3;
    static final int DIGIT = 4;
    static final int IS_ABOVE = 5;
    static final int TOLD = 6;
    static final int TAKE = 7;
    static final int STEP = 8;
    static final int CHOOSE = 9;
    static final int CHOSEN = 10;
    static final int DROP = 11;
    static final int TOTAL = 12;

    private static final String[] NAMES = {"dimension", "values", "facts", "views", "digit", "isAbove",
        "told", "take", "step", "choose", "chosen", "drop", "total"};

    private Calls() {
    }

    static int[] call(int... numbers) {
        return numbers;
    }

    static int methods() {
        return NAMES.length;
    }

    static String nameOf(int method) {
        return NAMES[method];
    }

    /** -1 if there is no method of that name. */
    static int methodNamed(String name) {
        return Arrays.asList(NAMES).indexOf(name);
    }

    private static long numberAnswered(ViewChooser x, int[] c) {
        switch (c[0]) {
            case DIMENSION: return x.dimension(c[1]);
            case VALUES: return x.values(c[1], c[2], c[3]);
            case FACTS: return x.facts(c[1]);
            case VIEWS: return x.views();
            case DIGIT: return x.digit(c[1], c[2]);
            case IS_ABOVE: return x.isAbove(c[1], c[2]) ? 1 : 0;
            case TOLD: return x.told(c[1], c[2]);
            case TAKE: return x.take(c[1]);
            case STEP: return x.step();
            case CHOOSE: return x.choose(c[1]);
            case CHOSEN: return x.chosen(c[1]);
            case DROP: return x.drop();
            default: return x.total();
        }
    }

    static String answer(ViewChooser x, int[] c) {
        return Check.answerOf(() -> numberAnswered(x, c));
    }

    static String text(int[] c) {
        StringBuilder text = new StringBuilder(NAMES[c[0]]).append('(');
        for (int i = 1; i < c.length; i++) {
            text.append(i > 1 ? ", " : "").append(c[i]);
        }
        return text.append(')').toString();
    }
}
