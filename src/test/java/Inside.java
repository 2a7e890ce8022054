import java.lang.reflect.Array;
import java.lang.reflect.Field;
import java.lang.reflect.Method;

/**
 * What TermLog has inside, for the few sentences that no run of calls can reach: none can break a
 * promise, so a test must spoil what is kept to see that it is told.
 */
final class Inside {
    private final Object now;

    Inside(TermLog x) {
        now = get(x, "now");
    }

    Object node(int n) {
        return Array.get(get(now, "nodes"), n);
    }

    Object world() {
        return now;
    }

    Object read(int i) {
        return Array.get(get(now, "reads"), i);
    }

    /** Another ENTRY at an INDEX of a NODE that has no SNAPSHOT yet. */
    void layAt(int n, int index, int term, int kind, int first, int second) {
        Array.setInt(get(node(n), "log"), index - 1, entry(term, kind, first, second));
    }

    static int entry(int term, int kind, int first, int second) {
        try {
            Method m = TermLog.class.getDeclaredMethod("entryOf", int.class, int.class, int.class,
                    int.class);
            m.setAccessible(true);
            return (Integer) m.invoke(null, term, kind, first, second);
        } catch (ReflectiveOperationException e) {
            throw new IllegalStateException(e);
        }
    }

    static Object get(Object of, String name) {
        try {
            return field(of, name).get(of);
        } catch (ReflectiveOperationException e) {
            throw new IllegalStateException(e);
        }
    }

    static void set(Object of, String name, int value) {
        try {
            field(of, name).setInt(of, value);
        } catch (ReflectiveOperationException e) {
            throw new IllegalStateException(e);
        }
    }

    static void set(Object of, String row, int at, int value) {
        Array.setInt(get(of, row), at, value);
    }

    private static Field field(Object of, String name) throws NoSuchFieldException {
        Field f = of.getClass().getDeclaredField(name);
        f.setAccessible(true);
        return f;
    }
}
