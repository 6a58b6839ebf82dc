import java.lang.reflect.Field;
import java.lang.reflect.Modifier;
import java.util.ArrayList;
import java.util.IdentityHashMap;
import java.util.List;
import java.util.Map;

/**
 * Lays a number into an object, wherever it is held: for what is promised, but lies further off than the 512 calls
 * that an object is used for.
 */
final class Inside {
    private Inside() { }

    /** Each int of the object that is "was" becomes "v". */
    static void puts(Object of, int was, int v) {
        Map<Object, Boolean> met = new IdentityHashMap<>();
        List<Object> left = new ArrayList<>(List.of(of));
        while (!left.isEmpty()) {
            Object next = left.remove(left.size() - 1);
            if (met.put(next, true) != null) continue;
            if (next instanceof int[] row) {
                for (int i = 0; i < row.length; i++) row[i] = row[i] == was ? v : row[i];
            } else if (next instanceof Object[] row) {
                for (Object o : row) if (o != null) left.add(o);
            } else if (next instanceof List<?> row) {
                for (Object o : row) if (o != null) left.add(o);
            } else if (next.getClass().getName().startsWith("TepidByTreaty")) {
                fields(next, was, v, left);
            }
        }
    }

    private static void fields(Object of, int was, int v, List<Object> left) {
        for (Class<?> c = of.getClass(); c != null && c != Object.class; c = c.getSuperclass()) {
            for (Field f : c.getDeclaredFields()) {
                if (!Modifier.isStatic(f.getModifiers())) field(f, of, was, v, left);
            }
        }
    }

    private static void field(Field f, Object of, int was, int v, List<Object> left) {
        try {
            f.setAccessible(true);
            if (f.getType() == int.class) {
                if (f.getInt(of) == was) f.setInt(of, v);
            } else if (!f.getType().isPrimitive() && f.get(of) != null) {
                left.add(f.get(of));
            }
        } catch (IllegalAccessException e) {
            throw new IllegalStateException(f + " is out of reach", e);
        }
    }
}
