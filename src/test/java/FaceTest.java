import java.lang.reflect.Constructor;
import java.lang.reflect.Field;
import java.lang.reflect.Method;
import java.lang.reflect.Modifier;
import java.util.Set;
import java.util.TreeSet;

/** The class has the document's public face, and no other member that is not private. */
public final class FaceTest {
    private static final String ARGUMENT = " throws java.lang.IllegalArgumentException";
    private static final String STATE = " throws java.lang.IllegalStateException";
    private static final String BOTH = ARGUMENT + ",java.lang.IllegalStateException";

    private static Set<String> due() {
        return new TreeSet<>(Set.of(
            "public static final int ViewChooser.NONE",
            "public ViewChooser()",
            "public int ViewChooser.dimension(int)" + BOTH,
            "public int ViewChooser.values(int,int,int)" + ARGUMENT,
            "public int ViewChooser.facts(int)" + ARGUMENT,
            "public int ViewChooser.views()",
            "public int ViewChooser.digit(int,int)" + ARGUMENT,
            "public boolean ViewChooser.isAbove(int,int)" + ARGUMENT,
            "public long ViewChooser.told(int,int)" + ARGUMENT,
            "public int ViewChooser.take(int)" + BOTH,
            "public int ViewChooser.step()" + STATE,
            "public int ViewChooser.choose(int)" + ARGUMENT,
            "public int ViewChooser.chosen(int)" + ARGUMENT,
            "public int ViewChooser.drop()",
            "public long ViewChooser.total()"));
    }

    private static Set<String> got() {
        Set<String> got = new TreeSet<>();
        for (Field f : ViewChooser.class.getDeclaredFields()) {
            if (!Modifier.isPrivate(f.getModifiers())) {
                got.add(f.toString());
            }
        }
        for (Constructor<?> c : ViewChooser.class.getDeclaredConstructors()) {
            got.add(c.toString());
        }
        for (Method m : ViewChooser.class.getDeclaredMethods()) {
            if (!Modifier.isPrivate(m.getModifiers())) {
                got.add(m.toString());
            }
        }
        return got;
    }

    public static void main(String[] args) {
        boolean right = due().equals(got())
            && ViewChooser.class.getModifiers() == (Modifier.PUBLIC | Modifier.FINAL);
        System.out.println(right ? "the face is as due" : "the face is " + got() + ", due is " + due());
        if (!right) {
            System.exit(1);
        }
    }
}
