import java.lang.reflect.Array;
import java.lang.reflect.Field;
import java.lang.reflect.Modifier;
import java.util.Collections;
import java.util.IdentityHashMap;
import java.util.Set;

/** The room that a run has: even as many objects as a run has calls must fit, and dear calls make next to nothing. */
public final class RoomTest {
    private static final int CALLS = 512, MOST_OBJECTS = 600_000, MOST_ELEMENTS = 7_300_000;

    private int elements;
    private final Set<Object> seen = Collections.newSetFromMap(new IdentityHashMap<>());

    public static void main(String[] args) throws Exception {
        Checks c = new Checks("Room");
        RoomTest room = new RoomTest();
        room.walk(new YesterdayScale());
        System.out.println("a new object: " + room.seen.size() + " objects, " + room.elements + " elements");
        c.hold("objects", room.seen.size() <= MOST_OBJECTS / CALLS);
        c.hold("elements", room.elements <= MOST_ELEMENTS / CALLS);
        c.hold("calls make next to nothing", madeByDearCalls() < 64 * 1024);
        c.end();
    }

    private void walk(Object from) throws IllegalAccessException {
        if (from == null || !seen.add(from)) {
            return;
        }
        Class<?> type = from.getClass();
        if (type.isArray()) {
            elements += Array.getLength(from);
            if (!type.getComponentType().isPrimitive()) {
                for (Object part : (Object[]) from) {
                    walk(part);
                }
            }
            return;
        }
        for (Class<?> part = type; part != Object.class; part = part.getSuperclass()) {
            for (Field field : part.getDeclaredFields()) {
                if (!Modifier.isStatic(field.getModifiers())) {
                    elements++;
                    field.setAccessible(true);
                    if (!field.getType().isPrimitive()) {
                        walk(field.get(from));
                    }
                }
            }
        }
    }

    private static long madeByDearCalls() {
        YesterdayScale x = Checks.with("law 3 1 90;thing salt 3;thing fish 6;thing whale 2;thing wool 5;day 5;day 6;");
        Checks.tell(x, 0, -1, -1);
        var threads = (com.sun.management.ThreadMXBean) java.lang.management.ManagementFactory.getThreadMXBean();
        round(x);
        long ahead = threads.getCurrentThreadAllocatedBytes();
        for (int i = 0; i < CALLS / 10; i++) {
            round(x);
        }
        return threads.getCurrentThreadAllocatedBytes() - ahead;
    }

    private static void round(YesterdayScale x) {
        x.fits(0, -1, 0);
        x.sure(0, 1);
        x.gap(0, 1);
        x.wrong(0, 1);
        x.laws(0);
        x.error(0);
        x.day(0);
        x.soon(-1);
        x.undo();
        x.ask(3, 0);
    }
}
