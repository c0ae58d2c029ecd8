import java.lang.reflect.Constructor;
import java.lang.reflect.Field;
import java.lang.reflect.Method;
import java.lang.reflect.Modifier;
import java.util.HashSet;
import java.util.Set;
import java.util.TreeSet;

/** The class has the document's public face and no other member that can be seen from outside. */
public final class FaceTest {
    private static final String A = " throws IllegalArgumentException, IllegalStateException";
    private static final Set<String> FACE = Set.of(
            "int own(int)" + A,
            "int fence(int, int)" + A,
            "int add(int, int)" + A + ", UnsupportedOperationException",
            "int sync(int)" + A,
            "int close(int)" + A + ", UnsupportedOperationException",
            "int open(int, int)" + A + ", UnsupportedOperationException, IndexOutOfBoundsException",
            "int publish(int, int, int, int)" + A + ", IndexOutOfBoundsException",
            "void attach(int, int, int)" + A,
            "void detach(int, int, int)" + A,
            "void permit(int, int, int, int)" + A,
            "int send(int, int)" + A + ", NoSuchElementException",
            "int ack(int, int, int, int, boolean)" + A + ", NoSuchElementException",
            "int save(int)" + A + ", UnsupportedOperationException",
            "int trim(int)" + A + ", UnsupportedOperationException",
            "void power(int, boolean)" + A,
            "void wipe(int)" + A,
            "void run(int, boolean)" + A,
            "int meta(int)",
            "int ledger(int, int)",
            "int entry(int, int)",
            "int broker(int, int)",
            "int message(int, int)",
            "int heard(int)",
            "boolean acked(int, int, int)",
            "boolean fenced(int, int)");

    private static boolean wrong;

    public static void main(String[] args) {
        Class<?> type = TopicLedgers.class;
        due(Modifier.isPublic(type.getModifiers()) && Modifier.isFinal(type.getModifiers()), "the class is public and final");
        Set<String> seen = new TreeSet<>();
        Set<String> names = new HashSet<>();
        for (Method method : type.getDeclaredMethods()) {
            if (!Modifier.isPrivate(method.getModifiers())) {
                due(Modifier.isPublic(method.getModifiers()) && !Modifier.isStatic(method.getModifiers()), method + " is public");
                seen.add(describe(method));
                names.add(method.getName());
            }
        }
        due(seen.equals(FACE), "the methods are those of the document: " + seen);
        for (Method method : type.getDeclaredMethods()) {
            due(!Modifier.isPrivate(method.getModifiers()) || !names.contains(method.getName()), method + " has a name of its own");
        }
        for (Field field : type.getDeclaredFields()) {
            due(Modifier.isPrivate(field.getModifiers()), field + " is private");
        }
        Constructor<?>[] constructors = type.getDeclaredConstructors();
        due(constructors.length == 1 && Modifier.isPublic(constructors[0].getModifiers())
                && java.util.Arrays.equals(constructors[0].getParameterTypes(), new Class<?>[] {int.class, int.class, int.class, int.class}),
                "there is the one constructor");
        for (Class<?> inside : type.getDeclaredClasses()) {
            due(Modifier.isStatic(inside.getModifiers()) && !Modifier.isPublic(inside.getModifiers()), inside + " is static and not public");
        }
        System.out.println(wrong ? "the face is not as due" : "the face is as due");
        if (wrong) {
            System.exit(1);
        }
    }

    private static String describe(Method method) {
        return method.getReturnType().getSimpleName() + " " + method.getName() + "(" + join(method.getParameterTypes()) + ")"
                + (method.getExceptionTypes().length == 0 ? "" : " throws " + join(method.getExceptionTypes()));
    }

    private static String join(Class<?>[] types) {
        StringBuilder text = new StringBuilder();
        for (Class<?> type : types) {
            text.append(text.length() == 0 ? "" : ", ").append(type.getSimpleName());
        }
        return text.toString();
    }

    private static void due(boolean holds, String what) {
        if (!holds) {
            wrong = true;
            System.out.println("not so: " + what);
        }
    }
}
