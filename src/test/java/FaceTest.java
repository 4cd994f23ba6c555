import java.lang.reflect.Constructor;
import java.lang.reflect.Field;
import java.lang.reflect.Method;
import java.lang.reflect.Modifier;
import java.util.Arrays;
import java.util.Set;
import java.util.TreeSet;

/** The public face: what the document lists, and nothing beside it. */
public final class FaceTest {
    private static final String BOUNDS = "IndexOutOfBoundsException";
    private static final String ARGUMENT = "IllegalArgumentException";
    private static final String STATE = "IllegalStateException";

    private static final String[] FACE = {
        "int tell(int,int,int,int) " + BOUNDS + " " + ARGUMENT + " " + STATE,
        "int refer(int,int) " + BOUNDS + " " + STATE,
        "int pass(int) " + ARGUMENT,
        "int today()",
        "int instruments()",
        "int calibrate(int,int,int) " + BOUNDS + " " + ARGUMENT + " " + STATE,
        "int measure(int) " + BOUNDS + " " + STATE,
        "int intervalOf(int) " + BOUNDS,
        "int dueOf(int) " + BOUNDS,
        "boolean isSuspect(int) " + BOUNDS,
        "int distrusted(int) " + BOUNDS,
        "int chain(int) " + BOUNDS,
        "int failures(int) " + BOUNDS,
        "double slope(int) " + BOUNDS,
        "long expected(int,int) " + BOUNDS + " " + ARGUMENT + " " + STATE,
        "int driftsOut(int) " + BOUNDS,
        "int uncertainty(int) " + BOUNDS,
        "int limit(int) " + BOUNDS,
        "int measurements()",
        "boolean isCalledBack(int) " + BOUNDS,
        "int calledBack()",
        "int calledBackByLog()",
        "int atStake(int) " + BOUNDS,
        "int benchDay(int,int) " + BOUNDS + " " + ARGUMENT,
        "int late(int) " + ARGUMENT,
    };

    private static String names(Class<?>[] types, String between) {
        StringBuilder text = new StringBuilder();
        for (Class<?> type : types) {
            text.append(text.length() == 0 ? "" : between).append(type.getSimpleName());
        }
        return text.toString();
    }

    private static String lineOf(Method method) {
        String line = method.getReturnType() + " " + method.getName()
                + "(" + names(method.getParameterTypes(), ",") + ") "
                + names(method.getExceptionTypes(), " ");
        return line.trim();
    }

    public static void main(String[] args) {
        Checks checks = new Checks("FaceTest");
        int modifiers = Calibratory.class.getModifiers();
        checks.due("public and final", Modifier.isPublic(modifiers) && Modifier.isFinal(modifiers), true);

        Set<String> open = new TreeSet<>();
        Set<String> openNames = new TreeSet<>();
        Set<String> hiddenNames = new TreeSet<>();
        for (Method method : Calibratory.class.getDeclaredMethods()) {
            if (method.isSynthetic()) continue;
            if (Modifier.isPrivate(method.getModifiers())) {
                hiddenNames.add(method.getName());
            } else {
                checks.due(method.getName() + " is public and no static one",
                        method.getModifiers() & (Modifier.PUBLIC | Modifier.PROTECTED | Modifier.STATIC), Modifier.PUBLIC);
                open.add(lineOf(method));
                openNames.add(method.getName());
            }
        }
        checks.due("the calls", open, new TreeSet<>(Arrays.asList(FACE)));
        hiddenNames.retainAll(openNames);
        checks.due("private methods that bear a public one's name", hiddenNames, Set.of());

        for (Field field : Calibratory.class.getDeclaredFields()) {
            boolean isNone = field.getName().equals("NONE");
            checks.due(field.getName() + " is private", Modifier.isPrivate(field.getModifiers()), !isNone);
            checks.due(field.getName() + " is final if it is static",
                    !Modifier.isStatic(field.getModifiers()) || Modifier.isFinal(field.getModifiers()), true);
        }
        checks.due("NONE", Calibratory.NONE, -1);

        Constructor<?>[] constructors = Calibratory.class.getDeclaredConstructors();
        checks.due("how many constructors", constructors.length, 1);
        checks.due("what it takes", constructors[0].getParameterCount(), 0);
        checks.due("it is public", Modifier.isPublic(constructors[0].getModifiers()), true);
        for (Class<?> inside : Calibratory.class.getDeclaredClasses()) {
            checks.due(inside.getSimpleName() + " is static, and open to nobody outside",
                    inside.getModifiers() & (Modifier.STATIC | Modifier.PUBLIC | Modifier.PROTECTED), Modifier.STATIC);
        }
        checks.end();
    }
}
