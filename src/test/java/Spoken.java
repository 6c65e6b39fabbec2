import java.lang.reflect.InvocationTargetException;
import java.lang.reflect.Method;
import java.lang.reflect.Modifier;

/** Asks calls that are written as text, like "flow(1, 0, -3, true)", of a RiverWords or of a Model. */
final class Spoken {
    private Spoken() {
    }

    static long ask(Object object, String call) {
        int bracket = call.indexOf('(');
        if (bracket < 0 || !call.endsWith(")")) {
            throw new IllegalArgumentException("no call: " + call);
        }
        String inside = call.substring(bracket + 1, call.length() - 1).trim();
        String[] texts = inside.isEmpty() ? new String[0] : inside.split("\\s*,\\s*");
        Object[] arguments = new Object[texts.length];
        for (int i = 0; i < texts.length; i++) {
            arguments[i] = argument(texts[i]);
        }
        return answer(object, method(object, call.substring(0, bracket), texts.length), arguments);
    }

    /** The method of the document's face with this name; a Model has private ones of its own beside them. */
    private static Method method(Object object, String name, int parameters) {
        for (Method method : object.getClass().getDeclaredMethods()) {
            boolean open = !Modifier.isPrivate(method.getModifiers()) && !Modifier.isStatic(method.getModifiers());
            if (open && method.getName().equals(name) && method.getParameterCount() == parameters) {
                return method;
            }
        }
        throw new IllegalArgumentException("no method " + name + " with " + parameters + " parameters");
    }

    private static long answer(Object object, Method method, Object[] arguments) {
        try {
            return ((Number) method.invoke(object, arguments)).longValue();
        } catch (IllegalAccessException | InvocationTargetException failed) {
            throw new IllegalStateException(method + " failed", failed);
        }
    }

    private static Object argument(String text) {
        if (text.equals("true") || text.equals("false")) {
            return text.equals("true");
        }
        return (int) number(text);
    }

    /** A number, a sign between quotes, or the name of an error or of NONE. */
    static long number(String text) {
        switch (text) {
            case "NONE": return Due.NONE;
            case "UNKNOWN": return Due.UNKNOWN;
            case "OUTSIDE": return Due.OUTSIDE;
            case "STATE": return Due.STATE;
            case "FULL": return Due.FULL;
            default: return text.length() == 3 && text.startsWith("'") && text.endsWith("'") ? text.charAt(1) : Long.parseLong(text);
        }
    }
}
