import java.lang.management.ManagementFactory;
import java.lang.reflect.Array;
import java.lang.reflect.Field;
import java.lang.reflect.Modifier;
import java.util.ArrayDeque;
import java.util.Collections;
import java.util.Deque;
import java.util.IdentityHashMap;
import java.util.Set;

/**
 * All calls of a run share one room, of some 600,000 objects and 7.3 million elements: what an object is made of is
 * little, and its calls make little or nothing (the program makes nothing; what came near the room would fail).
 */
public final class RoomTest {
    /** Of the room that is there for five objects with all their calls. */
    private static final int MOST_OBJECTS = 120000;
    private static final int MOST_ELEMENTS = 1460000;
    private static final int LEAST_BYTES_OF_ELEMENT = 4;
    /** An object is made for 512 calls; a turn makes some 60. */
    private static final int TURNS_OF_ONE = 8;
    private static long sum = 0;

    private static void callAll(LentNames port, int i) {
        for (char sign : SIGNS) {
            sum += port.say(sign);
        }
        sum += port.hull(i % 6, 1, i % 10) + port.luck(i % 5, i % 11) + port.worth(i % 6, i % 5, i % 100);
        sum += port.rank(i % 5, 543210) + port.fault() + port.judge(0) + port.log(0) + port.who(0, 0);
        sum += port.filled(-1) + port.could(0, 1) + port.most(63, 31, -1) + port.stable(63, 31, -1);
        sum += port.leave(63, 31, 123450, 0) + port.voyages(-1) + port.letGo(0) + port.home(0, 7, 0);
        sum += port.asks(0, 7, 999) + port.winter(i % 10000, 60, 0) + port.image(0) + port.restore(0);
        sum += port.told(100) + port.wipe() + port.judge(1) + port.log(20) + port.who(0, 0);
    }

    private static final char[] SIGNS = "?a1.?a1.?b1.?a1.!a.Be3".toCharArray();

    private static long bytesOf(int turns) {
        com.sun.management.ThreadMXBean bean =
            (com.sun.management.ThreadMXBean) ManagementFactory.getThreadMXBean();
        LentNames[] ports = new LentNames[turns];
        for (int i = 0; i < turns; i += TURNS_OF_ONE) {
            ports[i] = new LentNames();
        }
        long id = Thread.currentThread().getId();
        long before = bean.getThreadAllocatedBytes(id);
        for (int i = 0; i < turns; i++) {
            callAll(ports[i - i % TURNS_OF_ONE], i);
        }
        return bean.getThreadAllocatedBytes(id) - before;
    }

    /** {objects and arrays, fields and elements} of all that an object reaches. */
    private static int[] sizeOf(Object root) throws IllegalAccessException {
        Set<Object> met = Collections.newSetFromMap(new IdentityHashMap<>());
        Deque<Object> open = new ArrayDeque<>();
        open.add(root);
        met.add(root);
        int elements = 0;
        while (!open.isEmpty()) {
            Object next = open.poll();
            if (next.getClass().isArray()) {
                elements += Array.getLength(next);
                for (int i = 0; next instanceof Object[] && i < Array.getLength(next); i++) {
                    Object value = Array.get(next, i);
                    if (value != null && met.add(value)) {
                        open.add(value);
                    }
                }
                continue;
            }
            if (!next.getClass().getPackageName().isEmpty()) {
                continue;
            }
            for (Field field : next.getClass().getDeclaredFields()) {
                if (Modifier.isStatic(field.getModifiers())) {
                    continue;
                }
                elements++;
                field.setAccessible(true);
                Object value = field.getType().isPrimitive() ? null : field.get(next);
                if (value != null && met.add(value)) {
                    open.add(value);
                }
            }
        }
        return new int[] {met.size(), elements};
    }

    public static void main(String[] args) throws IllegalAccessException {
        boolean good = true;
        bytesOf(40 * TURNS_OF_ONE);
        long bytes = bytesOf(40 * TURNS_OF_ONE) / 40;
        if (bytes > (long) LEAST_BYTES_OF_ELEMENT * MOST_ELEMENTS) {
            System.out.println("the calls of one object took " + bytes + " bytes");
            good = false;
        }
        LentNames port = new LentNames();
        callAll(port, 1);
        int[] size = sizeOf(port);
        if (size[0] > MOST_OBJECTS || size[1] > MOST_ELEMENTS) {
            System.out.println("an object is made of " + size[0] + " objects with " + size[1] + " elements");
            good = false;
        }
        System.out.println("RoomTest: " + bytes + " bytes by the calls of one object, " + size[0] + " objects, " + size[1]
            + " elements; sum " + sum);
        if (!good) {
            System.exit(1);
        }
    }
}
