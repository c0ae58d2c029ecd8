import java.lang.reflect.InvocationTargetException;
import java.lang.reflect.Method;
import java.util.HashMap;
import java.util.Map;
import java.util.regex.Matcher;
import java.util.regex.Pattern;

/**
 * Runs of calls on a new object, written as text: "own(0) = 2" is a call with the answer that is due, "own(3) ! IAE"
 * one with the exception that is due, "attach(0, 0, 1)" one that answers nothing. Calls are parted by semicolons.
 */
final class Script {
    private static final Pattern CALL = Pattern.compile("(\\w+)\\(([^)]*)\\)\\s*(?:([=!])\\s*(\\S+))?");
    private static final Map<String, Class<?>> EXCEPTIONS = Map.of(
            "IAE", IllegalArgumentException.class,
            "ISE", IllegalStateException.class,
            "UOE", UnsupportedOperationException.class,
            "IOOBE", IndexOutOfBoundsException.class,
            "NSEE", java.util.NoSuchElementException.class);
    private static final Map<String, Method> METHODS = new HashMap<>();

    static {
        for (Method method : TopicLedgers.class.getDeclaredMethods()) {
            if (java.lang.reflect.Modifier.isPublic(method.getModifiers())) {
                METHODS.put(method.getName(), method);
            }
        }
    }

    private int wrong;
    private int calls;

    void run(String name, TopicLedgers topic, String... lines) {
        for (String line : lines) {
            for (String call : line.split(";")) {
                if (!call.isBlank()) {
                    check(name, topic, call.trim());
                }
            }
        }
    }

    void end() {
        System.out.println(wrong == 0 ? calls + " calls answered as due" : wrong + " answers are not as due");
        if (wrong != 0) {
            System.exit(1);
        }
    }

    private void check(String name, TopicLedgers topic, String text) {
        Matcher matcher = CALL.matcher(text);
        if (!matcher.matches()) {
            throw new IllegalArgumentException("not a call: " + text);
        }
        calls++;
        String due = matcher.group(3) == null ? "nothing"
                : matcher.group(3).equals("=") ? matcher.group(4)
                : "throws " + EXCEPTIONS.get(matcher.group(4)).getName();
        String got = invoke(topic, METHODS.get(matcher.group(1)), matcher.group(2));
        if (!got.equals(due)) {
            wrong++;
            System.out.println(name + ": " + text + " -> " + got);
        }
    }

    private static String invoke(TopicLedgers topic, Method method, String text) {
        String[] words = text.isBlank() ? new String[0] : text.split(",");
        Object[] arguments = new Object[words.length];
        for (int i = 0; i < words.length; i++) {
            boolean isBoolean = method.getParameterTypes()[i] == boolean.class;
            arguments[i] = isBoolean ? (Object) Boolean.valueOf(words[i].trim()) : Integer.valueOf(words[i].trim());
        }
        try {
            Object answer = method.invoke(topic, arguments);
            return method.getReturnType() == void.class ? "nothing" : String.valueOf(answer);
        } catch (InvocationTargetException e) {
            return "throws " + e.getCause().getClass().getName();
        } catch (IllegalAccessException e) {
            throw new IllegalStateException(e);
        }
    }
}
