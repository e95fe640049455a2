import java.lang.reflect.Constructor;
import java.lang.reflect.Field;
import java.lang.reflect.Method;
import java.lang.reflect.Modifier;
import java.util.Arrays;
import java.util.Set;
import java.util.TreeSet;

/** The public face, and the rules of LANGUAGE.md that can be seen from the compiled class. */
public final class FaceTest {
    private static final Checks CHECKS = new Checks();
    private static final Set<String> FACE = new TreeSet<>(Arrays.asList(
            "int feed(int)", "int setInput(int, int, int, int)", "int compile()",
            "int optimise()", "int run(int)", "int evalDirect()", "int out(int, int)",
            "int outDirect(int, int)", "int codeAt(int)", "int codeSize()", "int products()",
            "void reset()"));

    public static void main(String[] args) {
        theClass();
        theMethods();
        theFields();
        theClassesInside();
        CHECKS.finish();
    }

    private static void theClass() {
        int modifiers = SquareCode.class.getModifiers();
        CHECKS.isTrue("public", Modifier.isPublic(modifiers));
        CHECKS.isTrue("final", Modifier.isFinal(modifiers));
        Constructor<?>[] constructors = SquareCode.class.getDeclaredConstructors();
        CHECKS.due("constructors", constructors.length, 1);
        CHECKS.isTrue("its parameters", Arrays.equals(constructors[0].getParameterTypes(),
                new Class<?>[] {int.class, int.class}));
        CHECKS.isTrue("it is public", Modifier.isPublic(constructors[0].getModifiers()));
    }

    private static void theMethods() {
        Set<String> seen = new TreeSet<>();
        for (Method method : SquareCode.class.getDeclaredMethods()) {
            if (Modifier.isPrivate(method.getModifiers())) {
                CHECKS.isTrue("own name: " + method, !isNameOfFace(method.getName()));
            } else {
                seen.add(told(method));
            }
        }
        CHECKS.isTrue("the methods are " + seen, seen.equals(FACE));
    }

    private static String told(Method method) {
        String parameters = Arrays.toString(method.getParameterTypes());
        return method.getReturnType() + " " + method.getName() + "("
                + parameters.substring(1, parameters.length() - 1) + ")";
    }

    private static boolean isNameOfFace(String name) {
        return FACE.stream().anyMatch(method -> method.contains(" " + name + "("));
    }

    private static void theFields() {
        for (Field field : SquareCode.class.getDeclaredFields()) {
            CHECKS.isTrue("private: " + field, Modifier.isPrivate(field.getModifiers()));
            if (Modifier.isStatic(field.getModifiers())) {
                CHECKS.isTrue("final: " + field, Modifier.isFinal(field.getModifiers()));
            }
        }
    }

    private static void theClassesInside() {
        for (Class<?> inside : SquareCode.class.getDeclaredClasses()) {
            CHECKS.isTrue("static: " + inside, Modifier.isStatic(inside.getModifiers()));
            CHECKS.isTrue("private: " + inside, Modifier.isPrivate(inside.getModifiers()));
            for (Method method : inside.getDeclaredMethods()) {
                CHECKS.isTrue("own name: " + method, !isNameOfFace(method.getName()));
            }
        }
    }
}
