import java.lang.reflect.InvocationTargetException;
import java.lang.reflect.Method;
import java.util.HashMap;
import java.util.Map;
import java.util.NoSuchElementException;

/**
 * Calls written as texts, "add(1, 10, 3)", made on the program or on the plain ledger, so that a test
 * can be read as the run of calls that it is. The outcome is a text too: the answer, "done" for a call
 * without one, or the document's word for the exception.
 */
final class Spoken {

    private static final Map<String, Method> KNOWN = new HashMap<>();

    private Spoken() {
    }

    static String outcome(Object ledger, String call) {
        int bracket = call.indexOf('(');
        Method method = method(ledger.getClass(), call.substring(0, bracket));
        Object[] arguments = arguments(call.substring(bracket + 1, call.lastIndexOf(')')));
        try {
            Object answer = method.invoke(ledger, arguments);
            return answer == null ? "done" : answer.toString();
        } catch (InvocationTargetException e) {
            return word(e.getCause());
        } catch (IllegalAccessException e) {
            throw new IllegalStateException(e);
        }
    }

    private static Method method(Class<?> of, String name) {
        String known = of.getName() + "." + name;
        if (!KNOWN.containsKey(known)) {
            for (Method method : of.getDeclaredMethods()) {
                if (method.getName().equals(name)) {
                    KNOWN.put(known, method);
                }
            }
        }
        if (!KNOWN.containsKey(known)) {
            throw new IllegalStateException("no method " + known);
        }
        return KNOWN.get(known);
    }

    private static Object[] arguments(String texts) {
        if (texts.isBlank()) {
            return new Object[0];
        }
        String[] parts = texts.split(",");
        Object[] arguments = new Object[parts.length];
        for (int i = 0; i < parts.length; i++) {
            arguments[i] = argument(parts[i].strip());
        }
        return arguments;
    }

    private static Object argument(String text) {
        switch (text) {
            case "true":
                return true;
            case "false":
                return false;
            case "MIN":
                return Integer.MIN_VALUE;
            case "MAX":
                return Integer.MAX_VALUE;
            default:
                return Integer.valueOf(text);
        }
    }

    private static String word(Throwable thrown) {
        Class<?> one = thrown.getClass();
        if (one == IllegalArgumentException.class) {
            return "bad";
        }
        if (one == IllegalStateException.class) {
            return "state";
        }
        if (one == NoSuchElementException.class) {
            return "missing";
        }
        if (one == IndexOutOfBoundsException.class) {
            return "full";
        }
        if (one == UnsupportedOperationException.class) {
            return "corrupt";
        }
        if (one == ArithmeticException.class) {
            return "power";
        }
        return thrown.toString();
    }
}
