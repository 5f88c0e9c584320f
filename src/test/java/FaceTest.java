import java.lang.reflect.Constructor;
import java.lang.reflect.Field;
import java.lang.reflect.Method;
import java.lang.reflect.Modifier;
import java.util.Arrays;
import java.util.TreeSet;

/** The public face is that of the document, with nothing more. */
public final class FaceTest {
    private static final String[] CONSTANTS = {
        "NONE = -1", "LASER = 0", "GUIDE = 1", "COUPLER = 2", "RING = 3", "SWITCH = 4", "DETECTOR = 5"
    };
    private static final String[] METHODS = {
        "int part(int, int, int, int, int) IllegalArgumentException, IllegalStateException",
        "int set(int, int) IndexOutOfBoundsException, IllegalArgumentException",
        "int lead(int, int, int, int) IndexOutOfBoundsException, IllegalStateException",
        "int cut(int, int) IndexOutOfBoundsException",
        "int lock(int, int) IndexOutOfBoundsException, IllegalArgumentException, IllegalStateException",
        "int run(int) IllegalArgumentException, IllegalStateException",
        "int spacing(int) IllegalArgumentException",
        "int conflicts() ",
        "long trial(int, int, int) IndexOutOfBoundsException, IllegalArgumentException, IllegalStateException",
        "int yields(int, int, long) IndexOutOfBoundsException, IllegalArgumentException, IllegalStateException",
        "int ofPart(int, int) IndexOutOfBoundsException, IllegalArgumentException",
        "long comes(int, int, int) IndexOutOfBoundsException, IllegalArgumentException",
        "long seen(int, int) IndexOutOfBoundsException, IllegalArgumentException, IllegalStateException",
        "long account(int) IllegalArgumentException",
        "int tick() "
    };

    public static void main(String[] args) throws IllegalAccessException {
        int modifiers = Ringresonance.class.getModifiers();
        Check.due("the class is public", Modifier.isPublic(modifiers) ? 1 : 0, 1);
        Check.due("the class is final", Modifier.isFinal(modifiers) ? 1 : 0, 1);
        Check.same("constants", constants(), new TreeSet<>(Arrays.asList(CONSTANTS)).toString());
        Check.same("methods", methods(), new TreeSet<>(Arrays.asList(METHODS)).toString());
        Constructor<?>[] made = Ringresonance.class.getDeclaredConstructors();
        Check.due("constructors", made.length, 1);
        Check.same("the constructor", made[0].toString(), "public Ringresonance()");
        Check.end();
    }

    private static String constants() throws IllegalAccessException {
        TreeSet<String> all = new TreeSet<>();
        for (Field field : Ringresonance.class.getDeclaredFields()) {
            int modifiers = field.getModifiers();
            if (Modifier.isPrivate(modifiers)) {
                continue;
            }
            boolean constant = Modifier.isPublic(modifiers) && Modifier.isStatic(modifiers)
                    && Modifier.isFinal(modifiers) && field.getType() == int.class;
            all.add(constant ? field.getName() + " = " + field.getInt(null) : "not asked for: " + field);
        }
        return all.toString();
    }

    private static String methods() {
        TreeSet<String> all = new TreeSet<>();
        for (Method method : Ringresonance.class.getDeclaredMethods()) {
            int modifiers = method.getModifiers();
            if (Modifier.isPrivate(modifiers) || method.isSynthetic()) {
                continue;
            }
            all.add((Modifier.isPublic(modifiers) && !Modifier.isStatic(modifiers) ? "" : "not public: ")
                    + method.getReturnType() + " " + method.getName()
                    + "(" + names(method.getParameterTypes()) + ") " + names(method.getExceptionTypes()));
        }
        return all.toString();
    }

    private static String names(Class<?>[] types) {
        StringBuilder all = new StringBuilder();
        for (Class<?> type : types) {
            all.append(all.length() == 0 ? "" : ", ").append(type.getSimpleName());
        }
        return all.toString();
    }
}
