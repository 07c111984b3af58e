import java.lang.reflect.InvocationTargetException;
import java.lang.reflect.Method;
import java.lang.reflect.Modifier;
import java.nio.charset.StandardCharsets;
import java.util.Arrays;
import java.util.HashMap;
import java.util.Map;

/** The calls of the face by their names, on a GaleBeach or a PlainBeach, and no more of them than the document allows. */
final class Face {
    private static final int MOST_CALLS = 512;
    private static final Map<Class<?>, Map<String, Method>> METHODS = new HashMap<>();

    private final Object beach;
    private int calls = 0;

    private Face(Object beach) {
        this.beach = beach;
    }

    static Face gale() {
        return new Face(new GaleBeach());
    }

    static Face plain() {
        return new Face(new PlainBeach());
    }

    static Face galeOf(String text) {
        Face face = gale();
        face.lay(text, 0);
        return face;
    }

    static Face plainOf(String text) {
        Face face = plain();
        face.lay(text, 0);
        return face;
    }

    /** A boolean is told as 0 or 1. */
    long call(String name, long... args) {
        calls++;
        if (calls > MOST_CALLS) {
            throw new IllegalStateException("more than 512 calls on one object");
        }
        Method method = methodsOf(beach.getClass()).get(name);
        try {
            return ((Number) method.invoke(beach, arguments(method, args))).longValue();
        } catch (InvocationTargetException e) {
            throw new IllegalStateException(described(name, args) + " threw", e.getCause());
        } catch (IllegalAccessException e) {
            throw new IllegalStateException(e);
        }
    }

    private static Object[] arguments(Method method, long[] args) {
        Class<?>[] types = method.getParameterTypes();
        Object[] all = new Object[types.length];
        for (int i = 0; i < all.length; i++) {
            if (types[i] == boolean.class) {
                all[i] = args[i] != 0;
            } else if (types[i] == long.class) {
                all[i] = args[i];
            } else {
                all[i] = Math.toIntExact(args[i]);
            }
        }
        return all;
    }

    private static Map<String, Method> methodsOf(Class<?> type) {
        return METHODS.computeIfAbsent(type, t -> {
            Map<String, Method> all = new HashMap<>();
            for (Method method : t.getDeclaredMethods()) {
                if (!Modifier.isPrivate(method.getModifiers()) && !method.isSynthetic()) {
                    method.setAccessible(true);
                    all.put(method.getName(), method);
                }
            }
            return all;
        });
    }

    static String described(String name, long... args) {
        String all = Arrays.toString(args);
        return name + "(" + all.substring(1, all.length() - 1) + ")";
    }

    /** Puts a text in the place of THE TEXT, up to eight bytes a call. */
    void put(String text) {
        call("wipe");
        add(text);
    }

    /** Writes a text behind THE TEXT. */
    void add(String text) {
        byte[] bytes = text.getBytes(StandardCharsets.ISO_8859_1);
        for (int at = 0; at < bytes.length; at += 8) {
            int n = Math.min(8, bytes.length - at);
            long v = 0;
            for (int i = 0; i < n; i++) {
                v = v << 8 | bytes[at + i] & 255;
            }
            if (call("write", n, v) < n) {
                throw new IllegalStateException("a text that does not fit: " + text);
            }
        }
    }

    void lay(String text, int law) {
        put(text);
        if (call("lay", law) < 0) {
            throw new IllegalStateException("a text that is not laid: " + text);
        }
    }
}
