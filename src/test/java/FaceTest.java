import java.lang.reflect.Constructor;
import java.lang.reflect.Executable;
import java.lang.reflect.Field;
import java.lang.reflect.Method;
import java.lang.reflect.Modifier;
import java.util.Arrays;
import java.util.Set;
import java.util.TreeSet;

/** The public face is the document's, and nothing else of the class can be seen. */
public final class FaceTest {
    private static final String[] METHODS = {
        "int value(long, long)", "int act(int, int, int)", "int over(int, int) throws ArithmeticException",
        "int drop()", "int order(int, int)", "long part(int, int)", "int simplest(int, int)", "int near(int, int)",
        "long cut(int, int, boolean)", "int into(int, long)", "int empty(int)", "long at(int, int)",
        "int share(int, int) throws ArithmeticException", "int seats(int, int, int)", "int given(int)",
        "int tail(int, int, int)", "int urn(int, int, int, int)", "int test(int, int)", "int ways(int)",
        "int count(int)"};

    public static void main(String[] args) {
        constants();
        methods();
        Due.is("the class is public and final", ExactShares.class.getModifiers(), Modifier.PUBLIC | Modifier.FINAL);
        Constructor<?>[] constructors = ExactShares.class.getDeclaredConstructors();
        Due.is("constructors", constructors.length, 1);
        Due.is("the constructor is public", constructors[0].getModifiers(), Modifier.PUBLIC);
        Due.is("the constructor takes nothing", constructors[0].getParameterCount(), 0);
        Due.end();
    }

    private static void constants() {
        Due.is("BAD", ExactShares.BAD, -1);
        Due.is("ZERO", ExactShares.ZERO, -2);
        Due.is("GREW", ExactShares.GREW, -3);
        Due.is("FULL", ExactShares.FULL, -4);
        Due.is("NONE", ExactShares.NONE, -5);
        Due.is("NOTHING", ExactShares.NOTHING, Long.MIN_VALUE);
        int seen = 0;
        for (Field field : ExactShares.class.getDeclaredFields()) {
            int modifiers = field.getModifiers();
            if (!Modifier.isPrivate(modifiers)) {
                seen++;
                String type = field.getName().equals("NOTHING") ? "long" : "int";
                Due.same("type of " + field.getName(), field.getType().getSimpleName(), type);
                Due.is(field.getName() + " is public static final", modifiers,
                    Modifier.PUBLIC | Modifier.STATIC | Modifier.FINAL);
            }
            boolean stateOfAll = Modifier.isStatic(modifiers) && !Modifier.isFinal(modifiers);
            Due.is(field.getName() + " is a static that is not final", stateOfAll ? 1 : 0, 0);
        }
        Due.is("fields that can be seen", seen, 6);
    }

    private static void methods() {
        Set<String> due = new TreeSet<>(Arrays.asList(METHODS));
        Set<String> names = new TreeSet<>();
        for (Method method : ExactShares.class.getDeclaredMethods()) {
            if (!Modifier.isPrivate(method.getModifiers())) {
                names.add(method.getName());
                String face = method.getReturnType().getSimpleName() + " " + method.getName() + signature(method);
                Due.is(face + " is in the document", due.remove(face) ? 1 : 0, 1);
                Due.is(face + " is public", method.getModifiers(), Modifier.PUBLIC);
            }
        }
        Due.is("methods that are missing: " + due, due.size(), 0);
        for (Method method : ExactShares.class.getDeclaredMethods()) {
            boolean clash = Modifier.isPrivate(method.getModifiers()) && names.contains(method.getName());
            Due.is("private method with a public name: " + method.getName(), clash ? 1 : 0, 0);
            Due.is("parameters of " + method.getName() + " above seven", method.getParameterCount() > 7 ? 1 : 0, 0);
        }
    }

    private static String signature(Executable method) {
        StringBuilder text = new StringBuilder("(");
        for (Class<?> type : method.getParameterTypes()) {
            text.append(text.length() > 1 ? ", " : "").append(type.getSimpleName());
        }
        text.append(')');
        for (Class<?> type : method.getExceptionTypes()) {
            text.append(" throws ").append(type.getSimpleName());
        }
        return text.toString();
    }
}
