import java.lang.reflect.Field;
import java.lang.reflect.Method;
import java.lang.reflect.Modifier;
import java.util.Arrays;
import java.util.TreeSet;

/** The public face of the class is that of the document, no more and no less. */
public final class FaceTest {
    private static final String[] METHODS = {
        "int work(int, int) throws IndexOutOfBoundsException IllegalArgumentException",
        "int step(int, int, boolean, int) throws IndexOutOfBoundsException IllegalArgumentException IllegalStateException",
        "int instance(int, int, int, int, int, int) throws IndexOutOfBoundsException IllegalArgumentException IllegalStateException",
        "int fault(int, int, int) throws IndexOutOfBoundsException IllegalArgumentException",
        "int policy(int, int, int, int) throws IndexOutOfBoundsException IllegalArgumentException",
        "int share(int, int) throws IndexOutOfBoundsException IllegalArgumentException",
        "int eyes(int) throws IllegalArgumentException",
        "int canary(int, int) throws IndexOutOfBoundsException IllegalArgumentException",
        "void traces(int, int) throws IllegalArgumentException",
        "int request(int, boolean, int) throws IndexOutOfBoundsException IllegalArgumentException IllegalStateException",
        "int pass(int) throws IllegalArgumentException IllegalStateException",
        "int tick() throws",
        "int requestState(int) throws IndexOutOfBoundsException",
        "int requestTicks(int) throws IndexOutOfBoundsException",
        "boolean isKept(int) throws IndexOutOfBoundsException",
        "int callsOf(int) throws IndexOutOfBoundsException",
        "int calls() throws",
        "int call(int, int) throws IndexOutOfBoundsException IllegalArgumentException",
        "int budget(int) throws IndexOutOfBoundsException",
        "int breaker(int, int) throws IndexOutOfBoundsException",
        "boolean isShunned(int) throws IndexOutOfBoundsException",
        "int load(int, boolean) throws IndexOutOfBoundsException",
        "int canaryShare(int) throws IndexOutOfBoundsException",
        "int repairs(boolean) throws",
        "int extra(int) throws IndexOutOfBoundsException",
        "int first(int) throws IndexOutOfBoundsException",
    };
    private static final String[] CONSTANTS = {
        "NONE=-1", "CLIENT=6", "SLOW=0", "WRONG=1", "LOST=2", "DOWN=3", "TIMEOUT=0", "RETRIES=1", "HEDGE=2",
        "QUEUED=0", "RUNNING=1", "CALLING=2", "OK=3", "FAILED=4", "LATE=5", "REFUSED=6", "OFF=7", "GOING=8",
        "CLOSED=0", "OPEN=1", "HALF=2",
    };

    private static String textOf(Method method) {
        StringBuilder text = new StringBuilder();
        text.append(method.getReturnType().getSimpleName()).append(' ').append(method.getName()).append('(');
        String between = "";
        for (Class<?> type : method.getParameterTypes()) {
            text.append(between).append(type.getSimpleName());
            between = ", ";
        }
        text.append(") throws");
        for (Class<?> type : method.getExceptionTypes()) {
            text.append(' ').append(type.getSimpleName());
        }
        return text.toString();
    }

    private static void same(Check check, String what, TreeSet<String> got, String[] due) {
        TreeSet<String> wanted = new TreeSet<>(Arrays.asList(due));
        check.due(what + " " + got + " as " + wanted, got.equals(wanted), true);
    }

    public static void main(String[] args) throws IllegalAccessException {
        Check check = new Check();
        check.sentence(1, "public final class BrambleMesh");
        Class<?> face = BrambleMesh.class;
        check.due("public and final", Modifier.isPublic(face.getModifiers()) && Modifier.isFinal(face.getModifiers()), true);
        check.due("one constructor", face.getDeclaredConstructors().length, 1);
        check.due("a public constructor", face.getConstructors().length, 1);
        check.sentence(1, "The public face (its methods and their throws clauses)");
        TreeSet<String> methods = new TreeSet<>();
        TreeSet<String> publicNames = new TreeSet<>();
        for (Method method : face.getDeclaredMethods()) {
            if (!Modifier.isPrivate(method.getModifiers())) {
                methods.add(textOf(method));
                publicNames.add(method.getName());
            }
        }
        same(check, "methods", methods, METHODS);
        for (Method method : face.getDeclaredMethods()) {
            boolean isHidden = Modifier.isPrivate(method.getModifiers());
            check.due("name of " + method, isHidden && publicNames.contains(method.getName()), false);
        }
        check.sentence(1, "The constants");
        TreeSet<String> constants = new TreeSet<>();
        for (Field field : face.getDeclaredFields()) {
            if (!Modifier.isPrivate(field.getModifiers())) {
                boolean isConstant = Modifier.isStatic(field.getModifiers()) && Modifier.isFinal(field.getModifiers());
                check.due(field + " is a constant", isConstant && field.getType() == int.class, true);
                constants.add(field.getName() + "=" + field.getInt(null));
            } else if (Modifier.isStatic(field.getModifiers())) {
                check.due(field + " is final", Modifier.isFinal(field.getModifiers()), true);
            }
        }
        same(check, "constants", constants, CONSTANTS);
        check.end();
    }
}
