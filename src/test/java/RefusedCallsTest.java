import java.util.ArrayList;
import java.util.List;

/**
 * A call that throws changes nothing: in states from an empty object to a full one, each call that
 * is due to throw is made on one of two equal objects, and both must answer every later call alike.
 * So it is with calls that are not refused, but only ask or have nothing to choose.
 */
public final class RefusedCallsTest extends Check {
    private static final int MOST_CALLS = 512;
    private static final int[] NO_VIEWS = {MIN, -512, -1, 512, 513, MAX};
    private static final int[] NO_DIMENSIONS = {MIN, -8, -1, 8, 0x20000000, 0x40000000, MAX};

    /** A run of calls that leads to a state, and what the state is by those calls. */
    private static final class State {
        private final List<int[]> opening = new ArrayList<>();
        private final int[] levels;
        private final int chosen;
        private int views = 1;

        State(int facts, int chosen, int... levels) {
            this.levels = levels;
            this.chosen = chosen;
            opening.add(Calls.call(Calls.FACTS, facts));
            for (int d = 0; d < levels.length; d++) {
                opening.add(Calls.call(Calls.DIMENSION, levels[d]));
                views *= levels[d] + 1;
                for (int level = 0; level < levels[d]; level++) {
                    opening.add(Calls.call(Calls.VALUES, d, level, 1 + d + 3 * (levels[d] - level)));
                }
            }
            for (int i = 0; i < chosen; i++) {
                opening.add(Calls.call(Calls.TAKE, (37 * i + views / 2) % views));
            }
        }

        private ViewChooser make() {
            ViewChooser x = new ViewChooser();
            for (int[] call : opening) {
                Calls.answer(x, call);
            }
            return x;
        }

        public String toString() {
            return views + " views of " + levels.length + " dimensions, " + chosen + " chosen";
        }
    }

    private static final List<State> STATES = List.of(
        new State(0, 0),
        new State(40, 0),
        new State(40, 1),
        new State(40, 16),
        new State(100, 0, 2, 1),
        new State(100, 3, 2, 1),
        new State(100, 15, 2, 1),
        new State(100, 16, 2, 1),
        new State(MAX, 2, 4, 4, 4),
        new State(MAX, 16, 4, 4, 4, 3),
        new State(5000, 3, 1, 1, 1, 1, 1, 1, 1, 1),
        new State(5000, 0, 3, 3, 3, 3, 1),
        new State(5000, 15, 1, 1, 1, 1, 1, 1, 1, 3),
        new State(5000, 16, 3, 1, 1, 1, 1, 1, 1, 1));

    /** At most 16 views, the first and the last among them. */
    private static int[] someViews(State state) {
        int[] some = new int[Math.min(16, state.views)];
        for (int i = 0; i < some.length; i++) {
            some[i] = some.length == 1 ? 0 : i * (state.views - 1) / (some.length - 1);
        }
        return some;
    }

    private static void addAllChosen(List<int[]> calls) {
        for (int i = 0; i <= 16; i++) {
            calls.add(Calls.call(Calls.CHOSEN, i));
        }
    }

    private static void addTold(List<int[]> calls, State state) {
        for (int view : someViews(state)) {
            for (int what = 0; what <= 2; what++) {
                calls.add(Calls.call(Calls.TOLD, view, what));
            }
        }
    }

    /** Looks at everything and changes nothing. */
    private static List<int[]> looking(State state) {
        List<int[]> calls = new ArrayList<>();
        calls.add(Calls.call(Calls.VIEWS));
        calls.add(Calls.call(Calls.TOTAL));
        addAllChosen(calls);
        addTold(calls, state);
        int[] some = someViews(state);
        for (int i = 0; i < some.length; i++) {
            calls.add(Calls.call(Calls.IS_ABOVE, some[i], some[some.length - 1 - i]));
            for (int d = 0; d <= state.levels.length; d++) {
                calls.add(Calls.call(Calls.DIGIT, some[i], d));
            }
        }
        return calls;
    }

    /** Goes on choosing from what is there, and begins anew. */
    private static List<int[]> choosing(State state) {
        List<int[]> calls = new ArrayList<>();
        calls.add(Calls.call(Calls.STEP));
        calls.add(Calls.call(Calls.TAKE, state.views - 1));
        calls.add(Calls.call(Calls.CHOOSE, 16));
        calls.add(Calls.call(Calls.TOTAL));
        addAllChosen(calls);
        addTold(calls, state);
        calls.add(Calls.call(Calls.DROP));
        calls.add(Calls.call(Calls.TOTAL));
        addTold(calls, state);
        calls.add(Calls.call(Calls.TAKE, 0));
        calls.add(Calls.call(Calls.CHOOSE, 5));
        addAllChosen(calls);
        return calls;
    }

    /** Asks for everything that was told by telling it anew, and tells more. */
    private static List<int[]> telling(State state) {
        List<int[]> calls = new ArrayList<>();
        for (int d = 0; d <= state.levels.length; d++) {
            for (int level = 0; level <= 4; level++) {
                calls.add(Calls.call(Calls.VALUES, d, level, 2 + d + level));
            }
        }
        calls.add(Calls.call(Calls.FACTS, 77));
        for (int levels = 4; levels >= 1; levels--) {
            calls.add(Calls.call(Calls.DIMENSION, levels));
            calls.add(Calls.call(Calls.VIEWS));
        }
        for (int d = 0; d < 8; d++) {
            calls.add(Calls.call(Calls.VALUES, d, 0, 3));
        }
        addAllChosen(calls);
        addTold(calls, state);
        calls.add(Calls.call(Calls.CHOOSE, 4));
        addAllChosen(calls);
        calls.add(Calls.call(Calls.TOTAL));
        return calls;
    }

    private static List<List<int[]>> laterRuns(State state) {
        return List.of(looking(state), choosing(state), telling(state));
    }

    /** Stops at the first difference, as the later ones tell nothing new. */
    private static void sameAnswers(String after, ViewChooser x, ViewChooser untouched, List<int[]> later) {
        for (int[] call : later) {
            String want = Calls.answer(untouched, call);
            String got = Calls.answer(x, call);
            due(after + ", then " + Calls.text(call), got, want);
            if (!got.equals(want)) {
                return;
            }
        }
    }

    /** The calls between are due to answer alike; no answer is due if it is null. */
    private static void changeNothing(State state, List<int[]> between, String answer) {
        for (List<int[]> later : laterRuns(state)) {
            int calls = state.opening.size() + between.size() + later.size();
            due(state + ": a run within " + MOST_CALLS + " calls", calls <= MOST_CALLS, true);
            ViewChooser x = state.make();
            for (int[] call : between) {
                String got = Calls.answer(x, call);
                due(state + ": " + Calls.text(call), got, answer == null ? got : answer);
            }
            String last = between.isEmpty() ? "nothing" : Calls.text(between.get(between.size() - 1));
            sameAnswers(state + ": after " + last, x, state.make(), later);
        }
    }

    /** One by one, and all of them on one object. */
    private static void eachChangesNothing(State state, List<int[]> refused, String thrown) {
        for (int[] call : refused) {
            changeNothing(state, List.of(call), thrown);
        }
        changeNothing(state, refused, thrown);
    }

    private static List<int[]> callsWith(int method, int... arguments) {
        List<int[]> calls = new ArrayList<>();
        for (int argument : arguments) {
            calls.add(Calls.call(method, argument));
        }
        return calls;
    }

    /** Else the tests below would say nothing of the states that they name. */
    private static void termsEveryStateIsReached() {
        for (State state : STATES) {
            ViewChooser x = new ViewChooser();
            for (int[] call : state.opening) {
                due(state + ": " + Calls.text(call) + " throws", Calls.answer(x, call).startsWith("throws"), false);
            }
            due(state + ": views()", x.views(), state.views);
            due(state + ": drop()", x.drop(), state.chosen);
        }
    }

    private static void termsACallThatOnlyAsksChangesNothing() {
        for (State state : STATES) {
            changeNothing(state, looking(state), null);
        }
    }

    private static void promise2WrongLevels() {
        for (State state : STATES) {
            eachChangesNothing(state, callsWith(Calls.DIMENSION, MIN, -1, 0, 5, MAX), ARGUMENT);
        }
    }

    private static void promise2TooManyDimensionsOrViews() {
        for (State state : STATES) {
            List<int[]> refused = new ArrayList<>();
            for (int levels = 1; levels <= 4; levels++) {
                if (state.levels.length == 8 || state.views * (levels + 1) > 512) {
                    refused.add(Calls.call(Calls.DIMENSION, levels));
                }
            }
            eachChangesNothing(state, refused, STATE);
        }
    }

    private static void promise3NoSuchDimension() {
        for (State state : STATES) {
            List<int[]> refused = new ArrayList<>();
            refused.add(Calls.call(Calls.VALUES, state.levels.length, 0, 5));
            for (int d : NO_DIMENSIONS) {
                refused.add(Calls.call(Calls.VALUES, d, 0, 5));
            }
            eachChangesNothing(state, refused, ARGUMENT);
        }
    }

    private static void promise3NoSuchLevel() {
        for (State state : STATES) {
            List<int[]> refused = new ArrayList<>();
            for (int d = 0; d < state.levels.length; d++) {
                for (int level : new int[] {MIN, -4, -1, state.levels[d], 4, MAX}) {
                    refused.add(Calls.call(Calls.VALUES, d, level, 5));
                }
            }
            eachChangesNothing(state, refused, ARGUMENT);
        }
    }

    private static void promise3WrongValues() {
        for (State state : STATES) {
            List<int[]> refused = new ArrayList<>();
            for (int d = 0; d < state.levels.length; d++) {
                for (int n : new int[] {MIN, -1, 1000001, MAX}) {
                    refused.add(Calls.call(Calls.VALUES, d, state.levels[d] - 1, n));
                }
            }
            eachChangesNothing(state, refused, ARGUMENT);
        }
    }

    private static void promise4WrongFacts() {
        for (State state : STATES) {
            eachChangesNothing(state, callsWith(Calls.FACTS, MIN, -40, -1), ARGUMENT);
        }
    }

    private static void promise6NoSuchViewOrDimension() {
        for (State state : STATES) {
            List<int[]> refused = new ArrayList<>();
            refused.add(Calls.call(Calls.DIGIT, state.views, 0));
            refused.add(Calls.call(Calls.DIGIT, 0, state.levels.length));
            for (int view : NO_VIEWS) {
                refused.add(Calls.call(Calls.DIGIT, view, 0));
            }
            for (int d : NO_DIMENSIONS) {
                refused.add(Calls.call(Calls.DIGIT, 0, d));
            }
            eachChangesNothing(state, refused, ARGUMENT);
        }
    }

    private static void promise7NoSuchView() {
        for (State state : STATES) {
            List<int[]> refused = new ArrayList<>();
            refused.add(Calls.call(Calls.IS_ABOVE, state.views, 0));
            refused.add(Calls.call(Calls.IS_ABOVE, 0, state.views));
            for (int view : NO_VIEWS) {
                refused.add(Calls.call(Calls.IS_ABOVE, view, 0));
                refused.add(Calls.call(Calls.IS_ABOVE, 0, view));
            }
            eachChangesNothing(state, refused, ARGUMENT);
        }
    }

    private static void promise8NoSuchViewOrWhat() {
        for (State state : STATES) {
            List<int[]> refused = new ArrayList<>();
            for (int what = 0; what <= 2; what++) {
                refused.add(Calls.call(Calls.TOLD, state.views, what));
                for (int view : NO_VIEWS) {
                    refused.add(Calls.call(Calls.TOLD, view, what));
                }
            }
            for (int what : new int[] {MIN, -1, 3, MAX}) {
                refused.add(Calls.call(Calls.TOLD, 0, what));
                refused.add(Calls.call(Calls.TOLD, state.views, what));
            }
            eachChangesNothing(state, refused, ARGUMENT);
        }
    }

    private static void promise9NoSuchView() {
        for (State state : STATES) {
            List<int[]> refused = callsWith(Calls.TAKE, NO_VIEWS);
            refused.add(Calls.call(Calls.TAKE, state.views));
            eachChangesNothing(state, refused, ARGUMENT);
        }
    }

    private static void promise9SixteenAre() {
        for (State state : STATES) {
            if (state.chosen == 16) {
                eachChangesNothing(state, callsWith(Calls.TAKE, someViews(state)), STATE);
            }
        }
    }

    private static void promise10SixteenAre() {
        for (State state : STATES) {
            if (state.chosen == 16) {
                eachChangesNothing(state, List.of(Calls.call(Calls.STEP)), STATE);
            }
        }
    }

    private static void promise10AStepThatChoosesNone() {
        State none = new State(0, 0, 2, 1);
        State some = new State(1, 15, 1, 1);
        List<int[]> twice = List.of(Calls.call(Calls.STEP), Calls.call(Calls.STEP));
        changeNothing(none, twice, "-1");
        changeNothing(some, twice, "-1");
    }

    private static void promise11AsManyOrMoreAreChosen() {
        for (State state : STATES) {
            List<int[]> calls = new ArrayList<>();
            for (int k = 0; k <= state.chosen; k++) {
                calls.add(Calls.call(Calls.CHOOSE, k));
            }
            eachChangesNothing(state, calls, Integer.toString(state.chosen));
        }
    }

    private static void promise11WrongNumber() {
        for (State state : STATES) {
            eachChangesNothing(state, callsWith(Calls.CHOOSE, MIN, -1, 17, MAX), ARGUMENT);
        }
    }

    private static void promise12NoneSuch() {
        for (State state : STATES) {
            eachChangesNothing(state, callsWith(Calls.CHOSEN, MIN, -1, state.chosen, 16, MAX), ARGUMENT);
        }
    }

    public static void main(String[] args) {
        runAll(RefusedCallsTest.class);
    }
}
