import java.lang.reflect.InvocationTargetException;
import java.lang.reflect.Method;
import java.util.HashMap;
import java.util.Map;

/**
 * Calls on one new object, each told by a text: append(0, 5), over(0, 'a', 1), append(MAX, MIN);
 * c65535 is the sign with this number.
 */
final class Calls {
    /** "An object is used for at most 512 calls after it has been made." */
    static final int MOST = 512;
    private static final Map<String, Call> KNOWN = new HashMap<>();

    private record Call(Method method, Object[] args) {
    }

    private final PersistentParlour parlour = new PersistentParlour();
    private int made = 0;

    int left() {
        return MOST - made;
    }

    /** The answer, or the class of the exception, or a text if the machine threw. */
    Object make(String text) {
        if (left() == 0) {
            throw new AssertionError("more than 512 calls: " + text);
        }
        made++;
        Call call = KNOWN.computeIfAbsent(text, Calls::parse);
        try {
            return call.method.invoke(parlour, call.args);
        } catch (InvocationTargetException e) {
            return Check.thrown(e.getCause());
        } catch (IllegalAccessException e) {
            throw new AssertionError(e);
        }
    }

    static String nameOf(String text) {
        return text.substring(0, text.indexOf('('));
    }

    static String[] argumentsOf(String text) {
        String inside = text.substring(text.indexOf('(') + 1, text.length() - 1).trim();
        return inside.isEmpty() ? new String[0] : inside.split(", ");
    }

    private static Call parse(String text) {
        String[] told = argumentsOf(text);
        for (Method method : PersistentParlour.class.getDeclaredMethods()) {
            if (method.getName().equals(nameOf(text)) && method.getParameterCount() == told.length) {
                Object[] args = new Object[told.length];
                for (int i = 0; i < args.length; i++) {
                    args[i] = method.getParameterTypes()[i] == char.class ? sign(told[i]) : number(told[i]);
                }
                return new Call(method, args);
            }
        }
        throw new AssertionError("no such call: " + text);
    }

    private static Object sign(String told) {
        return told.charAt(0) == 'c' ? (char) Integer.parseInt(told.substring(1)) : told.charAt(1);
    }

    private static Object number(String told) {
        return told.equals("MIN") ? Integer.MIN_VALUE : told.equals("MAX") ? Integer.MAX_VALUE : Integer.parseInt(told);
    }
}
