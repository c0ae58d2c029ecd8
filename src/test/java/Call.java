import java.lang.reflect.InvocationTargetException;
import java.lang.reflect.Method;
import java.util.ArrayList;
import java.util.HashMap;
import java.util.List;
import java.util.Map;
import java.util.NoSuchElementException;
import java.util.regex.Matcher;
import java.util.regex.Pattern;

/** One call of the document's face, which can be made on the class and on the model. */
final class Call {
    static final String NOTHING = "nothing";
    private static final Pattern FORM = Pattern.compile("(\\w+)\\(([^)]*)\\)");
    private static final Map<Class<?>, String> EXCEPTIONS = Map.of(
            IllegalArgumentException.class, "IAE",
            IllegalStateException.class, "ISE",
            UnsupportedOperationException.class, "UOE",
            IndexOutOfBoundsException.class, "IOOBE",
            NoSuchElementException.class, "NSEE");
    private static final Map<Class<?>, Map<String, Method>> METHODS = new HashMap<>();

    final String name;
    private final Object[] arguments;

    Call(String name, Object... arguments) {
        this.name = name;
        this.arguments = arguments;
    }

    /** From a text such as "power(0, true)". */
    static Call of(String text) {
        Matcher matcher = FORM.matcher(text.trim());
        if (!matcher.matches()) {
            throw new IllegalArgumentException("not a call: " + text);
        }
        List<Object> arguments = new ArrayList<>();
        for (String word : matcher.group(2).split(",")) {
            String argument = word.trim();
            boolean isBoolean = argument.equals("true") || argument.equals("false");
            arguments.add(isBoolean ? (Object) Boolean.valueOf(argument) : (Object) Integer.valueOf(argument));
        }
        return new Call(matcher.group(1), arguments.toArray());
    }

    /** From a text of calls parted by semicolons. */
    static List<Call> all(String text) {
        List<Call> calls = new ArrayList<>();
        for (String part : text.split(";")) {
            if (!part.isBlank()) {
                calls.add(of(part));
            }
        }
        return calls;
    }

    static boolean isRefusal(String answer) {
        return EXCEPTIONS.containsValue(answer);
    }

    int firstArgument() {
        return (Integer) arguments[0];
    }

    /** The answer as text, or what was thrown. */
    String on(Object target) {
        Method method = METHODS.computeIfAbsent(target.getClass(), Call::methodsOf).get(name);
        try {
            Object answer = method.invoke(target, arguments);
            return method.getReturnType() == void.class ? NOTHING : String.valueOf(answer);
        } catch (InvocationTargetException e) {
            Class<?> type = e.getCause().getClass();
            return EXCEPTIONS.getOrDefault(type, type.getName());
        } catch (IllegalAccessException e) {
            throw new AssertionError(e);
        }
    }

    private static Map<String, Method> methodsOf(Class<?> type) {
        Map<String, Method> methods = new HashMap<>();
        for (Method method : type.getDeclaredMethods()) {
            if (!java.lang.reflect.Modifier.isPrivate(method.getModifiers())) {
                methods.put(method.getName(), method);
            }
        }
        return methods;
    }

    @Override
    public String toString() {
        String text = java.util.Arrays.toString(arguments);
        return name + "(" + text.substring(1, text.length() - 1) + ")";
    }
}
