import java.lang.management.ManagementFactory;
import java.lang.reflect.Array;
import java.lang.reflect.Field;
import java.lang.reflect.Modifier;
import java.util.ArrayDeque;
import java.util.Deque;
import java.util.IdentityHashMap;
import java.util.Map;

/** All calls of one run live in one room: an object is made whole at once, and its calls make nothing. */
public final class RoomTest {
    private static final int MOST_OBJECTS = 400;
    private static final int MOST_ELEMENTS = 12000;
    private static final int MOST_BYTES = 20000;

    private static int wrong = 0;
    private static long sum = 0;

    public static void main(String[] args) throws IllegalAccessException {
        Watchdog.start("RoomTest");
        VanRounds used = new VanRounds();
        use(used);
        for (VanRounds x : new VanRounds[] {new VanRounds(), used}) weigh(x);
        long bytes = bytesOfCalls();
        if (bytes > MOST_BYTES) {
            wrong++;
            System.out.println("the calls of a run made " + bytes + " bytes");
        }
        System.out.println(wrong == 0 ? "the room is kept" : "the room is not kept, " + sum);
        if (wrong != 0) System.exit(1);
    }

    private static void weigh(VanRounds x) throws IllegalAccessException {
        Map<Object, Boolean> seen = new IdentityHashMap<>();
        Deque<Object> open = new ArrayDeque<>();
        open.add(x);
        seen.put(x, true);
        int elements = 0;
        while (!open.isEmpty()) {
            Object next = open.remove();
            if (next.getClass().isArray()) {
                elements += Array.getLength(next);
                boolean plain = next.getClass().getComponentType().isPrimitive();
                for (int k = 0; !plain && k < Array.getLength(next); k++) see(Array.get(next, k), seen, open);
                continue;
            }
            for (Field f : next.getClass().getDeclaredFields()) {
                if (Modifier.isStatic(f.getModifiers())) continue;
                elements++;
                f.setAccessible(true);
                if (!f.getType().isPrimitive()) see(f.get(next), seen, open);
            }
        }
        if (seen.size() <= MOST_OBJECTS && elements <= MOST_ELEMENTS) return;
        wrong++;
        System.out.println("an object holds " + seen.size() + " objects and " + elements + " elements");
    }

    private static void see(Object part, Map<Object, Boolean> seen, Deque<Object> open) {
        if (part != null && seen.put(part, true) == null) open.add(part);
    }

    private static long bytesOfCalls() {
        com.sun.management.ThreadMXBean threads = (com.sun.management.ThreadMXBean) ManagementFactory.getThreadMXBean();
        long id = Thread.currentThread().getId();
        for (int k = 0; k < 3; k++) {
            use(new VanRounds());
            threads.getThreadAllocatedBytes(id);
        }
        VanRounds x = new VanRounds();
        long before = threads.getThreadAllocatedBytes(id);
        use(x);
        return threads.getThreadAllocatedBytes(id) - before;
    }

    /** Some 400 calls, all methods among them. */
    private static void use(VanRounds x) {
        for (int place = 0; place < 7; place++) sum += x.street(place, place + 1, 5);
        sum += x.van(200, 479, 5);
        sum += x.van(200, 479, 5);
        for (int s = 0; s < 5; s++) sum += x.stop(s == 4 ? 27 : 10 * s % 20 + s, 479, 105, 1);
        for (int k = 0; k < 9; k++) sum += x.least() + x.undo();
        sum += x.van(200, 479, 5);
        for (int s = 0; s < 8; s++) sum += x.stop(31 + s % 5, 100, 105, 1);
        for (int k = 0; k < 16; k++) {
            sum += x.build() + x.better(100) + x.least() + x.put(0, 0, 0) + x.pair(1, 0, 0, 1) + x.take(0) + x.put(0, 1, 0);
            sum += x.move(0, 0, 0) + x.cross(0, 0, 1, 0) + x.turn(0, 0, 1) + x.why(0, 0, 0) + x.where() + x.undo() + x.clear();
            sum += x.count(5) + x.count(6) + x.lay(0) + x.row(0) + x.copy(0, 0, 0) + x.tear() + x.status(-7) + x.way(0, 7, k);
        }
        sum += x.slow(0, 1, 0, 9) + x.span(0, 470) + x.price(6, 4) + x.shift(0, 478) + x.look(0, 5) + x.round(0, 0);
        sum += x.when(0, 0, 0) + x.cost(-1);
    }
}
