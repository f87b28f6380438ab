import java.lang.management.ManagementFactory;
import java.lang.reflect.Array;
import java.lang.reflect.Field;
import java.lang.reflect.Modifier;
import java.util.ArrayDeque;
import java.util.Collections;
import java.util.IdentityHashMap;
import java.util.Set;

/** All memory is made once, is small, and is enough for the most blocks that trees can have. */
public final class RoomTest {
    private static final int CALLS = 512;
    private static final Due due = new Due();

    public static void main(String[] args) throws ReflectiveOperationException {
        callsMakeNothing();
        for (int m : new int[] {4, 5, 16, 31}) {
            objectIsSmall(m);
            mostBlocks(m);
        }
        due.end();
    }

    private static void callsMakeNothing() {
        com.sun.management.ThreadMXBean threads =
            (com.sun.management.ThreadMXBean) ManagementFactory.getThreadMXBean();
        allCalls(new SharedTrees(4));
        SharedTrees x = new SharedTrees(4);
        long before = threads.getCurrentThreadAllocatedBytes();
        allCalls(x);
        long made = threads.getCurrentThreadAllocatedBytes() - before;
        due.holds(CALLS + " calls make nothing, not " + made + " bytes", made < 4 * CALLS);
    }

    private static void allCalls(SharedTrees x) {
        for (int call = 0; call + 12 <= CALLS; call += 12) {
            x.spread(call % 8, call, 3, 300, call);
            x.keep();
            x.clone((call + 1) % 8, call % 8);
            x.write(call % 8, call, 5);
            x.read(call % 8, call);
            x.erase((call + 1) % 8, call);
            x.next(call % 8, call);
            x.keys(-1);
            x.cut(call % 8, call, call + 100);
            x.check();
            x.back();
            x.drop((call + 3) % 8);
        }
    }

    private static void objectIsSmall(int m) throws ReflectiveOperationException {
        SharedTrees x = new SharedTrees(m);
        Set<Object> seen = Collections.newSetFromMap(new IdentityHashMap<>());
        ArrayDeque<Object> open = new ArrayDeque<>();
        open.add(x);
        long elements = 0;
        while (!open.isEmpty()) {
            Object object = open.remove();
            if (!seen.add(object)) {
                continue;
            }
            if (object.getClass().isArray()) {
                elements += Array.getLength(object);
                continue;
            }
            for (Field field : object.getClass().getDeclaredFields()) {
                if (!Modifier.isStatic(field.getModifiers())) {
                    elements++;
                    field.setAccessible(true);
                    if (!field.getType().isPrimitive()) {
                        open.add(field.get(object));
                    }
                }
            }
        }
        due.holds("few objects, not " + seen.size(), seen.size() < 100);
        due.holds("few elements, not " + elements, elements < 100_000);
    }

    /* Keys that go up leave nodes with the least entries; then none is shared with what was kept. */
    private static void mostBlocks(int m) {
        SharedTrees x = new SharedTrees(m);
        due.is("spread", x.spread(0, 0, 6, 600, 0), 600);
        due.is("keep", x.keep(), 600);
        due.is("spread", x.spread(0, 0, 6, 600, 1000), 600);
        due.is("check", x.check(), 0);
        due.is("write", x.write(0, 1, 0), -3);
        due.is("erase", x.erase(0, 0), 1000);
        due.is("write", x.write(0, 1, 7), 600);
        due.is("check", x.check(), 0);
        for (int i = 1; i < 200; i++) {
            due.is("read now", x.read(0, i * 6), 1000 + i);
        }
        due.is("back", x.back(), 600);
        for (int i = 0; i < 200; i++) {
            due.is("read what was kept", x.read(0, i * 6), i);
        }
        due.is("check", x.check(), 0);
        x.drop(0);
        for (int map = 0; map < 8; map++) {
            due.is("spread", x.spread(map, map, 7, 75, map), 75);
        }
        due.is("check", x.check(), 0);
        due.is("keep", x.keep(), 600);
        for (int map = 0; map < 8; map++) {
            due.is("spread", x.spread(map, map, 7, 75, map + 1), 75);
        }
        due.is("check", x.check(), 0);
    }
}
