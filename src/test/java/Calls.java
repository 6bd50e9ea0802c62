import java.lang.reflect.InvocationTargetException;
import java.lang.reflect.Method;

/** Makes calls that are known by their names only, and writes their answers as the document does. */
final class Calls {
    private Calls() {
    }

    /** The answer of a call such as "setInflow(0, 10)". */
    static String answer(Object object, String call) throws IllegalAccessException {
        int open = call.indexOf('(');
        if (open < 0 || !call.endsWith(")")) {
            return "\"" + call + "\" is no call";
        }
        String inside = call.substring(open + 1, call.length() - 1).trim();
        String[] written = inside.isEmpty() ? new String[0] : inside.split(",\\s*");
        Object[] arguments = new Object[written.length];
        for (int k = 0; k < written.length; k++) {
            boolean truth = written[k].equals("true") || written[k].equals("false");
            arguments[k] = truth ? (Object) Boolean.valueOf(written[k]) : (Object) Integer.valueOf(written[k]);
        }
        return answer(object, call.substring(0, open), arguments);
    }

    static String answer(Object object, String name, Object[] arguments) throws IllegalAccessException {
        for (Method method : object.getClass().getDeclaredMethods()) {
            if (method.getName().equals(name) && method.getReturnType() != void.class) {
                try {
                    return String.valueOf(method.invoke(object, arguments));
                } catch (InvocationTargetException e) {
                    return "throws " + e.getCause().getClass().getSimpleName();
                }
            }
        }
        return object.getClass().getName() + " has no call " + name;
    }
}
