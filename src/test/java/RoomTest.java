import java.lang.management.ManagementFactory;
import java.lang.reflect.Array;
import java.lang.reflect.Field;
import java.lang.reflect.Modifier;
import java.util.IdentityHashMap;
import java.util.Map;

/** All calls of a run live in one room: an object is small, and its calls make nothing new. */
public final class RoomTest {
    private static final int CALLS = 512;
    private static final int MOST_OBJECTS = 40;
    private static final int MOST_ELEMENTS = 20_000;
    private static final int MOST_BYTES = 50_000;

    private static final Check CHECK = new Check("RoomTest");
    private static long elements;

    public static void main(String[] args) throws IllegalAccessException {
        dearCalls(new TwoBanks());
        TwoBanks x = new TwoBanks();
        Map<Object, Boolean> before = reach(x);
        CHECK.due("objects " + before.size(), true, before.size() <= MOST_OBJECTS);
        CHECK.due("elements " + elements, true, elements <= MOST_ELEMENTS);
        long bytes = made();
        dearCalls(x);
        bytes = made() - bytes;
        CHECK.due("bytes made by " + CALLS + " calls: " + bytes, true, bytes <= MOST_BYTES);
        Map<Object, Boolean> after = reach(x);
        CHECK.due("objects kept", before.size(), after.size());
        CHECK.end();
    }

    private static long made() {
        com.sun.management.ThreadMXBean threads =
                (com.sun.management.ThreadMXBean) ManagementFactory.getThreadMXBean();
        return threads.getThreadAllocatedBytes(Thread.currentThread().getId());
    }

    /** Each second call changes the board, so that nothing found before can be told again. */
    private static void dearCalls(TwoBanks x) {
        x.board(2, 5);
        for (int call = 1; call + 10 < CALLS; call += 10) {
            x.set(call / 10 % 10, call % 3, 1);
            x.half(1 + call / 10 % 2, 0, 9, 0);
            x.change();
            x.first(2, 9);
            x.set(call / 10 % 10, 0, 2);
            x.count(8);
            x.change();
            x.link(1, 0, 9);
            x.lay(call / 10 % 7);
            x.count(9);
        }
    }

    private static Map<Object, Boolean> reach(TwoBanks x) throws IllegalAccessException {
        Map<Object, Boolean> seen = new IdentityHashMap<>();
        elements = 0;
        add(x, seen);
        return seen;
    }

    private static void add(Object o, Map<Object, Boolean> seen) throws IllegalAccessException {
        if (o == null || seen.put(o, true) != null) {
            return;
        }
        if (o.getClass().isArray()) {
            elements += Array.getLength(o);
            return;
        }
        for (Field field : o.getClass().getDeclaredFields()) {
            if (!Modifier.isStatic(field.getModifiers())) {
                elements++;
                field.setAccessible(true);
                if (!field.getType().isPrimitive()) {
                    add(field.get(o), seen);
                }
            }
        }
    }
}
