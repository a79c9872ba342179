import java.lang.reflect.Array;
import java.lang.reflect.Field;
import java.lang.reflect.Modifier;
import java.util.ArrayDeque;
import java.util.Arrays;
import java.util.Deque;
import java.util.IdentityHashMap;
import java.util.Map;

/** What an object takes with all that it holds: objects and arrays, and their fields and elements. */
record Room(int objects, int parts) {
    static Room of(Object whole) {
        Map<Object, Boolean> seen = new IdentityHashMap<>();
        Deque<Object> open = new ArrayDeque<>();
        open.add(whole);
        int parts = 0;
        while (!open.isEmpty()) {
            Object one = open.pop();
            if (seen.put(one, true) == null) {
                parts += one.getClass().isArray() ? elements(one, open) : fields(one, open);
            }
        }
        return new Room(seen.size(), parts);
    }

    private static int elements(Object array, Deque<Object> open) {
        if (array instanceof Object[] row) {
            Arrays.stream(row).filter(r -> r != null).forEach(open::add);
        }
        return Array.getLength(array);
    }

    private static int fields(Object one, Deque<Object> open) {
        int found = 0;
        for (Class<?> c = one.getClass(); c != Object.class; c = c.getSuperclass()) {
            for (Field f : c.getDeclaredFields()) {
                if (Modifier.isStatic(f.getModifiers())) {
                    continue;
                }
                found++;
                Object held = f.getType().isPrimitive() ? null : valueOf(f, one);
                if (held != null) {
                    open.add(held);
                }
            }
        }
        return found;
    }

    private static Object valueOf(Field f, Object one) {
        try {
            f.setAccessible(true);
            return f.get(one);
        } catch (IllegalAccessException e) {
            throw new IllegalStateException(e);
        }
    }
}
