import java.lang.reflect.Constructor;
import java.lang.reflect.Field;
import java.lang.reflect.Method;
import java.lang.reflect.Modifier;
import java.util.Arrays;
import java.util.Set;
import java.util.TreeSet;

/** The public face is that of the document, and nothing more. */
public final class FaceTest {
    private static final String BOUNDS = " throws IndexOutOfBoundsException";
    private static final String ARGUMENT = " IllegalArgumentException";
    private static final String STATE = " IllegalStateException";

    private static final String[] METHODS = {
        "int host(int, int, boolean)" + BOUNDS + ARGUMENT + STATE,
        "boolean toggleSuffix(int)" + BOUNDS,
        "int site(int)" + BOUNDS,
        "int address(int, int, int, int)" + BOUNDS + ARGUMENT + STATE,
        "int resolve(int, int)" + BOUNDS + ARGUMENT + STATE,
        "char text(int, int)" + BOUNDS,
        "void redirect(int, int, int)" + BOUNDS + ARGUMENT,
        "void allow(int, int, boolean, int, int)" + BOUNDS + ARGUMENT,
        "void setsCookie(int, int, int, int, int, int, int)" + BOUNDS + ARGUMENT,
        "boolean toggleBlocking()",
        "int page(int, int, int)" + BOUNDS + ARGUMENT + STATE,
        "int request(int, int, int, int, int, boolean)" + BOUNDS + ARGUMENT + STATE,
        "int pass(int) throws" + ARGUMENT,
        "int hops(int)" + BOUNDS,
        "int hop(int, int)" + BOUNDS,
        "int sent(int, int, int)" + BOUNDS,
        "int judged(int)" + BOUNDS,
        "int cookies()",
        "int cookie(int)" + BOUNDS,
        "int count(int) throws" + ARGUMENT,
    };

    public static void main(String[] args) {
        Set<String> due = new TreeSet<String>(Arrays.asList(METHODS));
        Set<String> got = new TreeSet<String>();
        Set<String> names = new TreeSet<String>();
        for (Method method : HopRules.class.getDeclaredMethods()) {
            if (!Modifier.isPrivate(method.getModifiers())) {
                got.add(describe(method));
                names.add(method.getName());
            }
        }
        Due.is("methods", got.toString(), due.toString());
        checkPrivateNames(HopRules.class, names);
        for (Class<?> inside : HopRules.class.getDeclaredClasses()) {
            checkPrivateNames(inside, names);
            Due.is(inside.getName() + " is static", Modifier.isStatic(inside.getModifiers()), true);
            Due.is(inside.getName() + " is public", Modifier.isPublic(inside.getModifiers()), false);
        }
        Due.is("class", Modifier.toString(HopRules.class.getModifiers()), "public final");
        for (Field field : HopRules.class.getDeclaredFields()) {
            Due.is(field.getName() + " is private", Modifier.isPrivate(field.getModifiers()), true);
        }
        Constructor<?>[] constructors = HopRules.class.getDeclaredConstructors();
        Due.is("constructors", constructors.length, 1);
        Due.is("constructor", constructors[0].toString(), "public HopRules()");
        Due.end();
    }

    private static String describe(Method method) {
        StringBuilder all = new StringBuilder();
        all.append(method.getReturnType().getSimpleName()).append(' ').append(method.getName()).append('(');
        for (int i = 0; i < method.getParameterCount(); i++) {
            all.append(i == 0 ? "" : ", ").append(method.getParameterTypes()[i].getSimpleName());
        }
        all.append(')');
        String word = " throws ";
        for (Class<?> thrown : method.getExceptionTypes()) {
            all.append(word).append(thrown.getSimpleName());
            word = " ";
        }
        return all.toString();
    }

    private static void checkPrivateNames(Class<?> type, Set<String> taken) {
        for (Method method : type.getDeclaredMethods()) {
            boolean bearsOne = Modifier.isPrivate(method.getModifiers()) && taken.contains(method.getName());
            Due.is(type.getName() + "." + method.getName() + " bears the name of a public one", bearsOne, false);
        }
    }
}
