import java.lang.management.ManagementFactory;
import java.lang.reflect.Array;
import java.lang.reflect.Field;
import java.lang.reflect.Modifier;
import java.util.ArrayDeque;
import java.util.Collections;
import java.util.Deque;
import java.util.IdentityHashMap;
import java.util.Set;

/** No call makes objects, and what an object is made of is little: all calls of a run share one room. */
public final class RoomTest {
    private static final int MOST_OBJECTS = 60;
    private static final int MOST_ELEMENTS = 1000;
    private static long sum = 0;

    private static void callAll(LentNames port, int i) {
        for (char sign : SIGNS) {
            sum += port.say(sign);
        }
        sum += port.hull(i % 6, 1, i % 10) + port.luck(i % 5, i % 11) + port.worth(i % 6, i % 5, i % 100);
        sum += port.rank(i % 5, 543210) + port.fault() + port.judge(0) + port.log(0) + port.who(0, 0);
        sum += port.filled(-1) + port.could(0, 1) + port.most(63, 31, -1) + port.stable(63, 31, -1);
        sum += port.leave(63, 31, 123450, 0) + port.voyages(-1) + port.letGo(0) + port.home(0, 7, 0);
        sum += port.asks(0, 7, 999) + port.winter(i % 10000, 60, 0) + port.image(0) + port.restore(0);
        sum += port.told(100) + port.wipe() + port.judge(1) + port.log(20) + port.who(0, 0);
    }

    private static final char[] SIGNS = "?a1.?a1.?b1.?a1.!a.Be3".toCharArray();

    private static long bytesOf(int turns) {
        com.sun.management.ThreadMXBean bean =
            (com.sun.management.ThreadMXBean) ManagementFactory.getThreadMXBean();
        LentNames port = new LentNames();
        long id = Thread.currentThread().getId();
        long before = bean.getThreadAllocatedBytes(id);
        for (int i = 0; i < turns; i++) {
            callAll(port, i);
        }
        return bean.getThreadAllocatedBytes(id) - before;
    }

    /** {objects and arrays, fields and elements} of all that an object reaches. */
    private static int[] sizeOf(Object root) throws IllegalAccessException {
        Set<Object> met = Collections.newSetFromMap(new IdentityHashMap<>());
        Deque<Object> open = new ArrayDeque<>();
        open.add(root);
        met.add(root);
        int elements = 0;
        while (!open.isEmpty()) {
            Object next = open.poll();
            if (next.getClass().isArray()) {
                elements += Array.getLength(next);
                continue;
            }
            for (Field field : next.getClass().getDeclaredFields()) {
                if (Modifier.isStatic(field.getModifiers())) {
                    continue;
                }
                elements++;
                field.setAccessible(true);
                Object value = field.getType().isPrimitive() ? null : field.get(next);
                if (value != null && met.add(value)) {
                    open.add(value);
                }
            }
        }
        return new int[] {met.size(), elements};
    }

    public static void main(String[] args) throws IllegalAccessException {
        boolean good = true;
        bytesOf(300);
        long bytes = bytesOf(300);
        // the measuring itself may take some; one int per call would take over 200000
        if (bytes > 20000) {
            System.out.println("300 turns of calls took " + bytes + " bytes");
            good = false;
        }
        LentNames port = new LentNames();
        callAll(port, 1);
        int[] size = sizeOf(port);
        if (size[0] > MOST_OBJECTS || size[1] > MOST_ELEMENTS) {
            System.out.println("an object is made of " + size[0] + " objects with " + size[1] + " elements");
            good = false;
        }
        System.out.println("RoomTest: " + bytes + " bytes by calls, " + size[0] + " objects, " + size[1]
            + " elements; sum " + sum);
        if (!good) {
            System.exit(1);
        }
    }
}
