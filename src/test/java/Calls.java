import java.lang.reflect.InvocationTargetException;
import java.lang.reflect.Method;
import java.lang.reflect.Modifier;
import java.util.HashMap;
import java.util.Map;

/** Calls told as text, such as put(0, 1, -2, 3, MAX) or kind(0x1111, 1, false, 0, 'abc'), so that a run can be made again. */
final class Calls {
    private record Told(Method method, Object[] arguments) { }

    private static final Map<String, Method> METHODS = methods();
    private static final Map<String, Told> READ = new HashMap<>();

    private Calls() { }

    private static Map<String, Method> methods() {
        Map<String, Method> all = new HashMap<>();
        for (Method m : TileOffice.class.getDeclaredMethods()) {
            if (Modifier.isPublic(m.getModifiers())) {
                all.put(m.getName(), m);
            }
        }
        return all;
    }

    /** The answer; a boolean counts 1 or 0. What the class throws goes through, for it must not throw. */
    static long answer(TileOffice x, String call) {
        Told told = READ.computeIfAbsent(call, Calls::read);
        try {
            Object got = told.method().invoke(x, told.arguments());
            return got instanceof Boolean yes ? (yes ? 1 : 0) : ((Number) got).longValue();
        } catch (InvocationTargetException | IllegalAccessException e) {
            throw new IllegalStateException(call + " threw", e.getCause());
        }
    }

    /** What the call answers when it is refused: false, NONE, and shown tells -2. */
    static long refusal(String call) {
        Told told = READ.computeIfAbsent(call, Calls::read);
        if (told.method().getReturnType() == boolean.class) {
            return 0;
        }
        return told.method().getName().equals("shown") ? -2 : -1;
    }

    private static Told read(String call) {
        int open = call.indexOf('(');
        String inside = call.substring(open + 1, call.length() - 1).strip();
        String[] texts = inside.isEmpty() ? new String[0] : inside.split(",");
        Method method = METHODS.get(call.substring(0, open));
        Class<?>[] types = method.getParameterTypes();
        if (types.length != texts.length) {
            throw new IllegalStateException(call + " is not told as it should be");
        }
        Object[] arguments = new Object[texts.length];
        for (int n = 0; n < texts.length; n++) {
            arguments[n] = argument(texts[n].strip(), types[n]);
        }
        return new Told(method, arguments);
    }

    private static Object argument(String text, Class<?> type) {
        if (type == boolean.class) {
            return Boolean.valueOf(text);
        }
        if (type == long.class) {
            return text.startsWith("'") ? Due.name(text.substring(1, text.length() - 1)) : (long) Long.decode(text);
        }
        return text.equals("MIN") ? Integer.MIN_VALUE : text.equals("MAX") ? Integer.MAX_VALUE : (int) Integer.decode(text);
    }
}
