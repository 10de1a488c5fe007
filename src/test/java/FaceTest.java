import java.lang.reflect.Constructor;
import java.lang.reflect.Field;
import java.lang.reflect.Method;
import java.lang.reflect.Modifier;
import java.util.TreeSet;

/** The public face: what the document gives, with its exceptions, and no other. */
public final class FaceTest {
    private static final String[] FACE = {
        "cash(int) long IndexOutOfBoundsException",
        "cause(int) long IndexOutOfBoundsException",
        "close() int IllegalStateException",
        "contract(int,int,int,boolean) int IllegalArgumentException IllegalStateException",
        "contrary(int,int,boolean) boolean IndexOutOfBoundsException IllegalStateException",
        "dividend(int,int) int IllegalArgumentException",
        "exercise(int,int,int) int IndexOutOfBoundsException IllegalArgumentException IllegalStateException",
        "fault() int",
        "hedge(int,int) int IllegalArgumentException",
        "kill() int",
        "limit(int) int IllegalArgumentException",
        "lots(int,int) int IndexOutOfBoundsException",
        "mark(int) int IndexOutOfBoundsException",
        "markByWays(int) int IndexOutOfBoundsException",
        "move(int) long IllegalArgumentException",
        "order(int,int,int,int) int IndexOutOfBoundsException IllegalArgumentException IllegalStateException",
        "quote(int,int,int,int) int IndexOutOfBoundsException IllegalArgumentException IllegalStateException",
        "quoted(int,int) int IndexOutOfBoundsException IllegalArgumentException",
        "seed(int) void IllegalArgumentException",
        "steps(int,int) void IllegalArgumentException",
        "value(int,boolean) long IndexOutOfBoundsException",
        "worst(int) long IllegalArgumentException",
        "worth() long",
    };

    public static void main(String[] args) {
        Check check = new Check();
        check.same("NONE", Strikehall.NONE, -1);
        check.same("CALL", Strikehall.CALL, 0);
        check.same("PUT", Strikehall.PUT, 1);
        int modifiers = Strikehall.class.getModifiers();
        check.same("public and final", Modifier.isPublic(modifiers) && Modifier.isFinal(modifiers) ? 1 : 0, 1);
        check.same("the methods", methods().toString(), new TreeSet<>(java.util.List.of(FACE)).toString());
        check.same("the constructors", constructors().toString(), "[public 0]");
        check.same("the fields", fields().toString(), "[CALL int, NONE int, PUT int]");
        check.same("private methods with a public name", doubled().toString(), "[]");
        check.end("FaceTest");
    }

    private static TreeSet<String> methods() {
        TreeSet<String> found = new TreeSet<>();
        for (Method method : Strikehall.class.getDeclaredMethods()) {
            if (!Modifier.isPrivate(method.getModifiers())) {
                found.add(described(method));
            }
        }
        return found;
    }

    private static String described(Method method) {
        StringBuilder text = new StringBuilder(method.getName()).append('(');
        String comma = "";
        for (Class<?> type : method.getParameterTypes()) {
            text.append(comma).append(type);
            comma = ",";
        }
        text.append(") ").append(method.getReturnType());
        for (Class<?> type : method.getExceptionTypes()) {
            text.append(' ').append(type.getSimpleName());
        }
        return text.toString();
    }

    private static TreeSet<String> constructors() {
        TreeSet<String> found = new TreeSet<>();
        for (Constructor<?> made : Strikehall.class.getDeclaredConstructors()) {
            found.add(Modifier.toString(made.getModifiers()) + " " + made.getParameterCount());
        }
        return found;
    }

    private static TreeSet<String> fields() {
        TreeSet<String> found = new TreeSet<>();
        for (Field field : Strikehall.class.getDeclaredFields()) {
            if (!Modifier.isPrivate(field.getModifiers())) {
                found.add(field.getName() + " " + field.getType());
            }
        }
        return found;
    }

    private static TreeSet<String> doubled() {
        TreeSet<String> open = new TreeSet<>();
        TreeSet<String> found = new TreeSet<>();
        for (Method method : Strikehall.class.getMethods()) {
            open.add(method.getName());
        }
        for (Method method : Strikehall.class.getDeclaredMethods()) {
            if (Modifier.isPrivate(method.getModifiers()) && open.contains(method.getName())) {
                found.add(method.getName());
            }
        }
        return found;
    }
}
