import java.lang.reflect.Constructor;
import java.lang.reflect.Field;
import java.lang.reflect.Method;
import java.lang.reflect.Modifier;
import java.util.Map;
import java.util.TreeMap;
import java.util.TreeSet;

/** The class has the document's face, and no other member that can be seen from outside. */
public final class FaceTest {
    private static final String[] METHODS = {
        "int snake(int, int)", "int charm(int, int)", "int turn(int)", "int play(int, int)",
        "int sell(int, int, int, int)", "int set(int, int)", "int append(int)", "int clearText()", "int fault()",
        "int run()", "int undo()", "int save()", "int restore()", "int player(int, int)", "int bite(int, int, int)",
        "int snakeOf(int, int)", "int square(int, int)", "int count(int)", "int why(int, int, int, int)",
        "int cheapest(int, int)", "int dangers(int)", "int fewest(int, int)", "int nextHome(int)",
        "double progress(int)"};

    private FaceTest() {
    }

    public static void main(String[] arguments) throws ReflectiveOperationException {
        Checks.due("modifiers of the class", SnakeTrades.class.getModifiers(), Modifier.PUBLIC | Modifier.FINAL);
        checkConstants();
        checkConstructor();
        checkMethods();
        for (Class<?> inside : SnakeTrades.class.getDeclaredClasses()) {
            Checks.holds(inside + " is private and static", Modifier.isPrivate(inside.getModifiers())
                && Modifier.isStatic(inside.getModifiers()));
        }
        Checks.end("FaceTest");
    }

    private static void checkConstants() throws ReflectiveOperationException {
        Map<String, Integer> due = new TreeMap<>(Map.of("NO_SUCH", -1, "BAD_VALUE", -2, "TOO_MANY", -3,
            "NOT_POSSIBLE", -4, "NONE", -5, "SLEEP", 0, "LIMIT", 1, "TRADES", 2));
        for (Field field : SnakeTrades.class.getDeclaredFields()) {
            if (Modifier.isPrivate(field.getModifiers())) {
                Checks.holds(field + " is final, if it is static",
                    !Modifier.isStatic(field.getModifiers()) || Modifier.isFinal(field.getModifiers()));
                continue;
            }
            Integer value = due.remove(field.getName());
            Checks.holds(field + " is of the face", value != null);
            Checks.due("modifiers of " + field, field.getModifiers(),
                Modifier.PUBLIC | Modifier.STATIC | Modifier.FINAL);
            Checks.due(field.getName(), field.getInt(null), value == null ? 0 : value);
        }
        Checks.holds("no constant is missing: " + due, due.isEmpty());
    }

    private static void checkConstructor() {
        Constructor<?>[] constructors = SnakeTrades.class.getDeclaredConstructors();
        Checks.due("constructors", constructors.length, 1);
        Checks.due("modifiers of the constructor", constructors[0].getModifiers(), Modifier.PUBLIC);
        Checks.due("arguments of the constructor", constructors[0].getParameterCount(), 0);
    }

    private static void checkMethods() {
        TreeSet<String> due = new TreeSet<>();
        TreeSet<String> names = new TreeSet<>();
        for (String method : METHODS) {
            due.add(method);
            names.add(method.substring(method.indexOf(' ') + 1, method.indexOf('(')));
        }
        for (Method method : SnakeTrades.class.getDeclaredMethods()) {
            if (Modifier.isPrivate(method.getModifiers())) {
                Checks.holds(method + " has a name of its own", !names.contains(method.getName()));
                continue;
            }
            Checks.due("modifiers of " + method, method.getModifiers(), Modifier.PUBLIC);
            Checks.holds(told(method) + " is of the face", due.remove(told(method)));
        }
        Checks.holds("no method is missing: " + due, due.isEmpty());
    }

    private static String told(Method method) {
        StringBuilder parameters = new StringBuilder();
        for (Class<?> type : method.getParameterTypes()) {
            parameters.append(parameters.length() == 0 ? "" : ", ").append(type.getName());
        }
        return method.getReturnType().getName() + " " + method.getName() + "(" + parameters + ")";
    }
}
