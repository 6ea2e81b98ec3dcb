import java.lang.reflect.Field;

/** Reaches into the private fields of a canal, to make states that no run of calls leads to. */
final class Inside {
    private Inside() {
    }

    static int[] row(ChordCanal canal, String part, String name) {
        return (int[]) value(part(canal, part), name);
    }

    static void put(ChordCanal canal, String part, String name, int number) {
        Object owner = part(canal, part);
        try {
            field(owner, name).setInt(owner, number);
        } catch (IllegalAccessException e) {
            throw new IllegalStateException(e);
        }
    }

    private static Object part(ChordCanal canal, String part) {
        return value(value(canal, "canal"), part);
    }

    private static Object value(Object owner, String name) {
        try {
            return field(owner, name).get(owner);
        } catch (IllegalAccessException e) {
            throw new IllegalStateException(e);
        }
    }

    private static Field field(Object owner, String name) {
        try {
            Field field = owner.getClass().getDeclaredField(name);
            field.setAccessible(true);
            return field;
        } catch (NoSuchFieldException e) {
            throw new IllegalStateException(e);
        }
    }
}
