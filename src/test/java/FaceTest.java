import java.lang.reflect.Constructor;
import java.lang.reflect.Field;
import java.lang.reflect.Method;
import java.lang.reflect.Modifier;
import java.util.HashSet;
import java.util.Set;
import java.util.TreeSet;

/** The class has the document's face, and by rule 1 of LANGUAGE.md nothing else to be seen. */
public final class FaceTest {
    private static final String[] METHODS = {
        "wheel 1", "circle 1", "holes 1", "gear 1", "teeth 1", "plain 2", "compound 2",
        "differential 2", "train 3", "hole 3", "miss 4", "worst 3", "best 1", "error 2",
        "spoilt 4", "extreme 4", "near 4", "vernier 2", "read 3", "two 4", "told 1"
    };
    private static final String[] CONSTANTS = {"NONE", "UNKNOWN", "OUTSIDE", "STATE", "FULL", "NO"};
    private static final int[] VALUES = {-6, -1, -2, -3, -4, -5};

    private static final Due due = new Due("FaceTest");

    private FaceTest() {
    }

    public static void main(String[] args) throws ReflectiveOperationException {
        due.is("public final", DividingHead.class.getModifiers(), Modifier.PUBLIC | Modifier.FINAL);
        constructors();
        constants();
        methods();
        due.end();
    }

    private static void constructors() {
        Constructor<?>[] all = DividingHead.class.getDeclaredConstructors();
        due.is("constructors", all.length, 1);
        due.is("the constructor is public", all[0].getModifiers(), Modifier.PUBLIC);
        due.is("the constructor's arguments", all[0].getParameterCount(), 0);
    }

    private static void constants() throws ReflectiveOperationException {
        int seen = 0;
        for (Field field : DividingHead.class.getDeclaredFields()) {
            seen += Modifier.isPrivate(field.getModifiers()) ? 0 : 1;
            due.is(field + " is static only if final", isStaticState(field) ? 1 : 0, 0);
        }
        due.is("constants", seen, CONSTANTS.length);
        for (int c = 0; c < CONSTANTS.length; c++) {
            Field field = DividingHead.class.getDeclaredField(CONSTANTS[c]);
            due.is(CONSTANTS[c], field.getInt(null), VALUES[c]);
            due.is(CONSTANTS[c] + " modifiers", field.getModifiers(),
                    Modifier.PUBLIC | Modifier.STATIC | Modifier.FINAL);
        }
    }

    private static boolean isStaticState(Field field) {
        return Modifier.isStatic(field.getModifiers()) && !Modifier.isFinal(field.getModifiers());
    }

    private static void methods() {
        Set<String> seen = new TreeSet<>();
        Set<String> names = new HashSet<>();
        for (String method : METHODS) {
            names.add(method.substring(0, method.indexOf(' ')));
        }
        for (Method method : DividingHead.class.getDeclaredMethods()) {
            if (Modifier.isPrivate(method.getModifiers())) {
                due.is(method + " bears a public name", names.contains(method.getName()) ? 1 : 0, 0);
                continue;
            }
            due.is(method + " modifiers", method.getModifiers(), Modifier.PUBLIC);
            due.is(method + " answers an int", method.getReturnType() == int.class ? 1 : 0, 1);
            for (Class<?> type : method.getParameterTypes()) {
                due.is(method + " takes an int", type == int.class ? 1 : 0, 1);
            }
            seen.add(method.getName() + " " + method.getParameterCount());
        }
        due.is("methods", seen.size(), METHODS.length);
        for (String method : METHODS) {
            due.is("there is " + method, seen.contains(method) ? 1 : 0, 1);
        }
    }
}
