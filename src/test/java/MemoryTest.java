import java.lang.management.ManagementFactory;
import java.lang.reflect.Array;
import java.lang.reflect.Field;
import java.lang.reflect.Modifier;
import java.util.Collections;
import java.util.IdentityHashMap;
import java.util.Set;

/** Terms: "All memory is the class's own, made once." */
public final class MemoryTest {
    private static final Check CHECK = new Check("MemoryTest");
    // All calls of one run share some 600,000 objects and 7.3 million numbers: room for a thousand objects is plenty.
    private static final int MOST_OBJECTS = 600;
    private static final int MOST_NUMBERS = 7300;
    private static final int ROUNDS = 200;

    public static void main(String[] args) throws IllegalAccessException {
        newObjectIsSmall();
        callsKeepWhatWasMade();
        callsMakeNothing();
        roomsShareNothing();
        CHECK.end();
    }

    private static void newObjectIsSmall() throws IllegalAccessException {
        CHECK.sentence("All memory is made once (and is little)");
        Set<Object> all = partsOf(new RayRoom());
        CHECK.dueTrue("few objects: " + all.size(), all.size() <= MOST_OBJECTS);
        int numbers = 0;
        for (Object o : all) {
            numbers += o.getClass().isArray() ? Array.getLength(o) : o.getClass().getDeclaredFields().length;
        }
        CHECK.dueTrue("few fields and elements: " + numbers, numbers <= MOST_NUMBERS);
    }

    private static void callsKeepWhatWasMade() throws IllegalAccessException {
        CHECK.sentence("All memory is made once (calls keep it)");
        RayRoom room = new RayRoom();
        Set<Object> before = partsOf(room);
        everyCall(room);
        Set<Object> after = partsOf(room);
        CHECK.due("objects after calls", after.size(), before.size());
        CHECK.dueTrue("the objects are the same", after.containsAll(before));
    }

    private static void callsMakeNothing() {
        CHECK.sentence("All memory is made once (calls make none)");
        var threads = (com.sun.management.ThreadMXBean) ManagementFactory.getThreadMXBean();
        RayRoom room = new RayRoom();
        everyCall(room);
        long before = threads.getCurrentThreadAllocatedBytes();
        for (int k = 0; k < ROUNDS; k++) {
            everyCall(room);
        }
        long made = threads.getCurrentThreadAllocatedBytes() - before;
        // The least object has 16 bytes, so that one object in each round would be more than this.
        CHECK.dueTrue(made + " bytes in " + ROUNDS + " rounds", made < 16L * ROUNDS);
    }

    private static void roomsShareNothing() throws IllegalAccessException {
        CHECK.sentence("All memory is the class's own");
        Set<Object> one = partsOf(new RayRoom());
        Set<Object> other = partsOf(new RayRoom());
        CHECK.dueTrue("two rooms have no object in common", Collections.disjoint(one, other));
    }

    private static Set<Object> partsOf(Object o) throws IllegalAccessException {
        Set<Object> all = Collections.newSetFromMap(new IdentityHashMap<>());
        collect(o, all);
        return all;
    }

    private static void collect(Object o, Set<Object> all) throws IllegalAccessException {
        if (o == null || !all.add(o) || o.getClass().isArray()) {
            return;
        }
        for (Field f : o.getClass().getDeclaredFields()) {
            if (!Modifier.isStatic(f.getModifiers()) && !f.getType().isPrimitive()) {
                f.setAccessible(true);
                collect(f.get(o), all);
            }
        }
    }

    private static void everyCall(RayRoom room) {
        for (int z = 0; z < 3; z++) {
            room.point(-9, -9, z);
            room.point(9, -9, z);
            room.point(0, 9, z);
            room.triangle(200);
        }
        room.point(8, -9, 1);
        room.move(1, 1);
        room.point(0, 0, 8);
        room.eye();
        room.axis(0, 0, 0, -4);
        room.axis(1, 1, 0, 0);
        room.axis(2, 0, 1, 0);
        room.size(3, 3);
        room.point(5, 5, 9);
        room.light(0, 255);
        room.set(1, 0, 10);
        room.build(1);
        room.refit();
        room.node(0, 5);
        room.order(0);
        room.hit(1, 1);
        room.told(10);
        room.cross(1, 1);
        room.crossing(0);
        room.meets(1, 1, 0);
        room.lit(1, 1, 0);
        room.shadow(1, 1, 0);
        room.pixel(1, 1);
        room.picture(0, 0, 3, 3);
        room.seen(-1);
        room.facing(0);
        room.point(-1, -1, -1);
        room.point(1, 1, 1);
        room.touched(-1);
        room.shared(0, 1);
        room.count(0);
        room.drop();
    }
}
