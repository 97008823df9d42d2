import java.lang.reflect.Constructor;
import java.lang.reflect.Field;
import java.lang.reflect.Method;
import java.lang.reflect.Modifier;
import java.util.ArrayList;
import java.util.Arrays;
import java.util.List;
import java.util.Set;
import java.util.TreeSet;
import java.util.function.Supplier;

/** The class has the document's public face, and no other member that is not private. */
public final class FaceTest extends Check {
    private static final String ONLY_ARGUMENT = " throws java.lang.IllegalArgumentException";
    private static final String ONLY_STATE = " throws java.lang.IllegalStateException";
    private static final String BOTH = ONLY_ARGUMENT + ",java.lang.IllegalStateException";
    private static final int[] NUMBERS = {MIN, MIN + 1, -512, -1, 0, 1, 2, 3, 4, 5, 7, 8, 9, 15, 16, 17, 255, 256,
        511, 512, 513, 1000000, 1000001, 0x20000000, 0x40000000, MAX - 1, MAX};

    private static Set<String> dueMethods() {
        return new TreeSet<>(Set.of(
            "public int ViewChooser.dimension(int)" + BOTH,
            "public int ViewChooser.values(int,int,int)" + ONLY_ARGUMENT,
            "public int ViewChooser.facts(int)" + ONLY_ARGUMENT,
            "public int ViewChooser.views()",
            "public int ViewChooser.digit(int,int)" + ONLY_ARGUMENT,
            "public boolean ViewChooser.isAbove(int,int)" + ONLY_ARGUMENT,
            "public long ViewChooser.told(int,int)" + ONLY_ARGUMENT,
            "public int ViewChooser.take(int)" + BOTH,
            "public int ViewChooser.step()" + ONLY_STATE,
            "public int ViewChooser.choose(int)" + ONLY_ARGUMENT,
            "public int ViewChooser.chosen(int)" + ONLY_ARGUMENT,
            "public int ViewChooser.drop()",
            "public long ViewChooser.total()"));
    }

    private static void faceClass() {
        due("modifiers", Modifier.toString(ViewChooser.class.getModifiers()), "public final");
        due("the class above", ViewChooser.class.getSuperclass().getName(), "java.lang.Object");
        due("interfaces", ViewChooser.class.getInterfaces().length, 0);
        due("package", ViewChooser.class.getPackageName(), "");
    }

    private static void faceConstants() {
        Set<String> got = new TreeSet<>();
        for (Field f : ViewChooser.class.getDeclaredFields()) {
            if (!Modifier.isPrivate(f.getModifiers())) {
                got.add(f.toString());
            }
        }
        due("constants", got.toString(), "[public static final int ViewChooser.NONE]");
    }

    /** A case label takes nothing but a constant that is known when it is compiled. */
    private static void faceNoneIsAConstant() {
        switch (new ViewChooser().step()) {
            case ViewChooser.NONE:
                break;
            default:
                due("step() of a new object", "another", "NONE");
        }
    }

    private static void faceConstructor() {
        Constructor<?>[] got = ViewChooser.class.getDeclaredConstructors();
        due("constructors", got.length, 1);
        due("constructor", got[0].toString(), "public ViewChooser()");
    }

    private static void faceMethods() {
        Set<String> got = new TreeSet<>();
        for (Method m : ViewChooser.class.getDeclaredMethods()) {
            if (!Modifier.isPrivate(m.getModifiers())) {
                got.add(m.toString());
            }
        }
        due("methods", got.toString(), dueMethods().toString());
    }

    private static void facePrivateMethodsHaveNamesOfTheirOwn() {
        for (Method m : ViewChooser.class.getDeclaredMethods()) {
            boolean ofTheFace = Calls.methodNamed(m.getName()) >= 0;
            due(m.getName() + " is of the face", ofTheFace, Modifier.isPublic(m.getModifiers()));
        }
    }

    private static void faceClassesInsideAreStaticAndNotPublic() {
        for (Class<?> c : ViewChooser.class.getDeclaredClasses()) {
            int m = c.getModifiers();
            due(c.getName() + " is static", Modifier.isStatic(m), true);
            due(c.getName() + " is public or protected", Modifier.isPublic(m) || Modifier.isProtected(m), false);
        }
    }

    private static ViewChooser some() {
        ViewChooser x = new ViewChooser();
        x.dimension(2);
        x.dimension(4);
        x.facts(100);
        x.values(0, 0, 30);
        x.values(1, 3, 4);
        x.take(7);
        return x;
    }

    /** As many dimensions, views and chosen ones as there can be. */
    private static ViewChooser most() {
        ViewChooser x = new ViewChooser();
        for (int d = 0; d < 8; d++) {
            x.dimension(d == 3 ? 3 : 1);
            x.values(d, 0, 1000000);
        }
        x.facts(MAX);
        for (int i = 0; i < 16; i++) {
            x.take(511 - i);
        }
        return x;
    }

    private static List<int[]> callsOf(Method method) {
        List<int[]> calls = new ArrayList<>();
        calls.add(new int[] {Calls.methodNamed(method.getName())});
        for (int i = 0; i < method.getParameterCount(); i++) {
            List<int[]> longer = new ArrayList<>();
            for (int[] call : calls) {
                for (int number : NUMBERS) {
                    int[] more = Arrays.copyOf(call, call.length + 1);
                    more[call.length] = number;
                    longer.add(more);
                }
            }
            calls = longer;
        }
        return calls;
    }

    private static Set<String> thrownBy(Method method, Supplier<ViewChooser> state) {
        Set<String> thrown = new TreeSet<>();
        for (int[] call : callsOf(method)) {
            String answer = Calls.answer(state.get(), call);
            if (answer.startsWith("throws.")) {
                thrown.add(answer);
            }
        }
        return thrown;
    }

    /** In three states, with all numbers at once: each exception that a line names is met, and no other. */
    private static void faceEachCallThrowsWhatItsLineNames() {
        for (Method method : ViewChooser.class.getDeclaredMethods()) {
            if (!Modifier.isPublic(method.getModifiers())) {
                continue;
            }
            Set<String> want = new TreeSet<>();
            for (Class<?> thrown : method.getExceptionTypes()) {
                want.add("throws." + thrown.getSimpleName());
            }
            Set<String> got = thrownBy(method, ViewChooser::new);
            got.addAll(thrownBy(method, FaceTest::some));
            got.addAll(thrownBy(method, FaceTest::most));
            due(method.getName() + " throws", got.toString(), want.toString());
        }
    }

    public static void main(String[] args) {
        runAll(FaceTest.class);
    }
}
