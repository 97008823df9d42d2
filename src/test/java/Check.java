import java.lang.reflect.InvocationTargetException;
import java.lang.reflect.Method;
import java.util.ArrayList;
import java.util.Comparator;
import java.util.List;

/** What the tests share: an answer that is not the one that is due is printed and counted. */
abstract class Check {
    static final int MIN = Integer.MIN_VALUE;
    static final int MAX = Integer.MAX_VALUE;
    static final String ARGUMENT = "throws.IllegalArgumentException";
    static final String STATE = "throws.IllegalStateException";

    private static int wrong = 0;
    private static String running = "";

    /** A call that may throw. */
    interface Call {
        long answer();
    }

    static String answerOf(Call call) {
        try {
            return Long.toString(call.answer());
        } catch (RuntimeException e) {
            // The very class counts: NumberFormatException, for one, is an illegal argument too.
            return e.getClass().getName().replace("java.lang.", "throws.");
        }
    }

    static void due(String what, String got, String want) {
        if (!got.equals(want)) {
            wrong++;
            System.out.println(running + ": " + what + " answered " + got + ", due is " + want);
        }
    }

    static void due(String what, long got, long want) {
        due(what, Long.toString(got), Long.toString(want));
    }

    static void due(String what, boolean got, boolean want) {
        due(what, Boolean.toString(got), Boolean.toString(want));
    }

    static void illegalArgument(String what, Call call) {
        due(what, answerOf(call), ARGUMENT);
    }

    static void illegalState(String what, Call call) {
        due(what, answerOf(call), STATE);
    }

    /** By name, so that no test is left out because nobody has listed it; whatever follows, even a digit. */
    private static List<Method> testsOf(Class<?> tests) {
        List<Method> found = new ArrayList<>();
        for (Method method : tests.getDeclaredMethods()) {
            boolean named = method.getName().matches("(whatItIs|face|terms|promise|readme).+");
            if (named && method.getParameterCount() == 0) {
                found.add(method);
            }
        }
        found.sort(Comparator.comparing(Method::getName));
        return found;
    }

    private static void run(Method test) {
        running = test.getName();
        try {
            test.setAccessible(true);
            test.invoke(null);
        } catch (InvocationTargetException e) {
            due("the test", e.getCause().toString(), "no exception");
        } catch (IllegalAccessException e) {
            due("the test", e.toString(), "no exception");
        }
    }

    /** Runs every method whose name begins with the part of the document that it is about, or with readme. */
    static void runAll(Class<?> tests) {
        List<Method> found = testsOf(tests);
        for (Method test : found) {
            run(test);
        }
        System.out.println(found.size() + " tests, " + wrong + " answers not as due");
        if (wrong != 0 || found.isEmpty()) {
            System.exit(1);
        }
    }
}
