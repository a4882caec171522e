import java.lang.reflect.Constructor;
import java.lang.reflect.Field;
import java.lang.reflect.Method;
import java.lang.reflect.Modifier;
import java.util.Arrays;
import java.util.TreeSet;

/** The class has the document's face, with its exceptions, and nothing else that can be seen. */
public final class FaceTest {
    private static final String ARGUMENT = "IllegalArgumentException";
    private static final String INDEX = "IndexOutOfBoundsException";
    private static final String STATE = "IllegalStateException";
    private static final String ELEMENT = "NoSuchElementException";

    private static String names(Class<?>[] classes) {
        StringBuilder names = new StringBuilder();
        for (Class<?> each : classes) {
            names.append(names.length() == 0 ? "" : ", ").append(each.getSimpleName());
        }
        return names.toString();
    }

    private static String described(Method m) {
        String thrown = names(m.getExceptionTypes());
        return m.getReturnType().getSimpleName() + " " + m.getName() + "("
                + names(m.getParameterTypes()) + ")" + (thrown.isEmpty() ? "" : " throws " + thrown);
    }

    public static void main(String[] args) {
        TreeSet<String> due = new TreeSet<>(Arrays.asList(
                "int insert(int, int, int) throws " + ARGUMENT + ", " + INDEX + ", " + STATE,
                "int erase(int, int) throws " + ARGUMENT + ", " + INDEX + ", " + STATE,
                "int undo(int) throws " + ARGUMENT + ", " + ELEMENT + ", " + STATE,
                "int length(int)",
                "int character(int, int) throws " + ARGUMENT + ", " + STATE + ", " + INDEX,
                "int revision(int)", "int pending(int)", "int op(int, int)", "int waiting()",
                "int message(int, int)", "int deliver(int)", "boolean lose(int)",
                "boolean repeat(int)", "boolean harm(int, int)", "void tick()",
                "boolean connect(int, boolean)", "boolean trip(int)", "boolean crash()",
                "boolean restart()"));
        TreeSet<String> got = new TreeSet<>();
        for (Method m : JointText.class.getDeclaredMethods()) {
            if (!Modifier.isPrivate(m.getModifiers())) {
                got.add(described(m));
                Check.same(m.getName() + " is public", Modifier.isPublic(m.getModifiers()), true);
                Check.same(m.getName() + " is static", Modifier.isStatic(m.getModifiers()), false);
            }
        }
        Check.same("methods", got, due);
        for (Field f : JointText.class.getDeclaredFields()) {
            Check.same(f.getName() + " is private", Modifier.isPrivate(f.getModifiers()), true);
        }
        Constructor<?>[] made = JointText.class.getDeclaredConstructors();
        Check.same("constructors", made.length, 1);
        Check.same("parameters of the constructor", made[0].getParameterCount(), 0);
        Check.same("final", Modifier.isFinal(JointText.class.getModifiers()), true);
        Check.finish();
    }
}
