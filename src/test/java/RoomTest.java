import java.lang.reflect.Array;
import java.lang.reflect.Field;
import java.lang.reflect.Modifier;
import java.util.IdentityHashMap;
import java.util.Map;

/** How much of the one room an object takes: all that it holds after 512 of the dearest calls, and what calls leave behind. */
public final class RoomTest {
    private static final int MOST_OBJECTS = 200, MOST_ELEMENTS = 30000, MOST_LEFT = 60000;
    private static int objects = 0;
    private static int elements = 0;

    private static void weigh(Object o, Map<Object, Object> seen) throws IllegalAccessException {
        if (o == null || seen.put(o, o) != null) return;
        objects++;
        if (o.getClass().isArray()) {
            elements += Array.getLength(o);
            if (o instanceof Object[] all) for (Object each : all) weigh(each, seen);
            return;
        }
        for (Field f : o.getClass().getDeclaredFields()) {
            if (Modifier.isStatic(f.getModifiers())) continue;
            elements++;
            f.setAccessible(true);
            if (!f.getType().isPrimitive()) weigh(f.get(o), seen);
        }
    }

    private static CoatRings people() {
        CoatRings x = new CoatRings();
        for (int k = 0; k < 6; k++) x.person(3 * k, k * k % 17, 9 * k);
        for (int k = 0; k < 4; k++) x.inn(5 * k, 4 * k);
        for (int k = 0; k < 6; k++) x.fear(k % 3, k % 4, 5);
        x.set(1, 4);
        x.sheet(0, 0, 24);
        for (int k = 0; k < 6; k++) x.item(0, 0, k, (k + 2) % 6);
        return x;
    }

    private static void dear(CoatRings x, int k) {
        switch (k % 16) {
            case 0: x.meet(100 * (k % 5) + 5); break;
            case 1: x.plan(-1); break;
            case 2: x.atOnce(1); break;
            case 3: x.explained(1 + k / 16 % 7, 0); break;
            case 4: x.best(-1); break;
            case 5: x.next(0); break;
            case 6: x.blocks(0, 0, 0); break;
            case 7: x.trade(3); break;
            case 8: x.sheet(1, k / 16 % 3, 24); break;
            case 9: x.image(); break;
            case 10: x.restore(); break;
            case 11: x.type(0x613d623b623d6320L, 8); break;
            case 12: x.facts(); break;
            case 13: x.table(0, 0, 0); break;
            case 14: x.copy(0, 0, 0, 1, 20); break;
            default: x.harm(0, 0, 0, 0); break;
        }
    }

    public static void main(String[] args) throws IllegalAccessException {
        com.sun.management.ThreadMXBean bean =
            (com.sun.management.ThreadMXBean) java.lang.management.ManagementFactory.getThreadMXBean();
        long id = Thread.currentThread().getId();
        // Once ahead, so that loading classes is not counted.
        CoatRings before = people();
        for (int k = 0; k < 512; k++) dear(before, k);
        CoatRings x = people();
        long start = bean.getThreadAllocatedBytes(id);
        for (int k = 0; k < 480; k++) dear(x, k);
        long left = bean.getThreadAllocatedBytes(id) - start;
        weigh(x, new IdentityHashMap<>());
        System.out.println(objects + " objects, " + elements + " elements, " + left + " bytes made by calls");
        if (objects > MOST_OBJECTS || elements > MOST_ELEMENTS || left > MOST_LEFT) {
            System.out.println("that is too much");
            System.exit(1);
        }
    }
}
