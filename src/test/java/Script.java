import java.lang.reflect.InvocationTargetException;
import java.lang.reflect.Method;
import java.util.regex.Matcher;
import java.util.regex.Pattern;

/** Calls that stand written in a text, such as 'setEntry(0, 1, 4)', made on one new object. */
final class Script {
    private static final Pattern CALL = Pattern.compile("(\\w+)\\(([-\\d, ]*)\\)");

    private final SparseFactor x = new SparseFactor();

    /** Gives the answer as a text; throws.Name if the call throws, and why if there is no such. */
    String answer(String call) {
        Matcher parts = CALL.matcher(call.trim());
        if (!parts.matches()) {
            return "not a call";
        }
        Object[] values = numbers(parts.group(2).trim());
        for (Method m : SparseFactor.class.getMethods()) {
            if (m.getName().equals(parts.group(1)) && m.getParameterCount() == values.length) {
                return made(m, values);
            }
        }
        return "no such method";
    }

    static String nameOf(String call) {
        return call.substring(0, Math.max(0, call.indexOf('(')));
    }

    private String made(Method m, Object[] values) {
        try {
            return String.valueOf(m.invoke(x, values));
        } catch (InvocationTargetException e) {
            return "throws." + e.getCause().getClass().getSimpleName();
        } catch (IllegalAccessException e) {
            return "not public";
        }
    }

    private static Object[] numbers(String list) {
        if (list.isEmpty()) {
            return new Object[0];
        }
        String[] parts = list.split(",");
        Object[] values = new Object[parts.length];
        for (int k = 0; k < parts.length; k++) {
            values[k] = Integer.valueOf(parts[k].trim());
        }
        return values;
    }
}
