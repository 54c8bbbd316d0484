import java.lang.management.ManagementFactory;
import java.lang.reflect.Array;
import java.lang.reflect.Field;
import java.lang.reflect.Modifier;
import java.util.Collections;
import java.util.IdentityHashMap;
import java.util.Set;

/** "Terms", memory: an object's parts are made by its constructor and kept, whatever is called. */
public final class MemoryTest {
    private static final Check CHECK = new Check();
    private static final int MOST_ELEMENTS = 45_000;
    private static final int ROUNDS = 20;

    public static void main(String[] args) throws IllegalAccessException {
        CHECK.sentence("Terms", "All memory is rows made once.");
        ServiceDisk x = new ServiceDisk();
        Set<Object> made = partsOf(x);
        int elements = elementsOf(made);
        CHECK.isTrue("a run's objects stay few: " + made.size(), made.size() < 20);
        CHECK.isTrue("a run's elements stay few: " + elements, elements < MOST_ELEMENTS);
        useAll(x);
        samePartsAs(made, x);
        x.format(32);
        samePartsAs(made, x);
        callsMakeNothing();
        CHECK.end("MemoryTest");
    }

    /** The least of some rounds is taken, since the machine itself may make something when a call is new to it. */
    private static void callsMakeNothing() {
        if (!(ManagementFactory.getThreadMXBean() instanceof com.sun.management.ThreadMXBean threads)) {
            return;
        }
        long least = Long.MAX_VALUE;
        for (int round = 0; round < ROUNDS; round++) {
            ServiceDisk x = new ServiceDisk();
            long before = threads.getCurrentThreadAllocatedBytes();
            useWithoutRefusal(x);
            least = Math.min(least, threads.getCurrentThreadAllocatedBytes() - before);
        }
        CHECK.same("bytes that calls make", "0", Long.toString(least));
    }

    private static void useAll(ServiceDisk x) {
        useWithoutRefusal(x);
        CHECK.unknown("a refused call", () -> x.read(160, 0));
    }

    private static void useWithoutRefusal(ServiceDisk x) {
        x.format(8);
        x.reserve(1);
        Disks.addRows(x, 100, 0, -1, 8);
        x.sync();
        x.save(Long.MIN_VALUE);
        x.send(100);
        Disks.spoil(x, 0, 0);
        x.extract(0, 100);
        x.read(99, 7);
        x.kind(0);
        x.cut(1, 511);
        x.save(5);
        x.start();
        x.state();
        x.line(false);
        Disks.addRows(x, 60, 7, 1, 8);
        x.sync();
        x.send(60);
        x.gap(0);
        x.line(true);
        x.fill(100);
        x.count(6);
    }

    private static void samePartsAs(Set<Object> made, ServiceDisk x) throws IllegalAccessException {
        Set<Object> now = partsOf(x);
        CHECK.isTrue("as many parts", now.size() == made.size());
        CHECK.isTrue("the same parts", made.containsAll(now));
    }

    private static Set<Object> partsOf(Object whole) throws IllegalAccessException {
        Set<Object> found = Collections.newSetFromMap(new IdentityHashMap<>());
        collect(whole, found);
        return found;
    }

    private static void collect(Object part, Set<Object> found) throws IllegalAccessException {
        if (part == null || !found.add(part)) {
            return;
        }
        if (part instanceof Object[] parts) {
            for (Object inside : parts) {
                collect(inside, found);
            }
        } else if (!part.getClass().isArray()) {
            for (Field field : part.getClass().getDeclaredFields()) {
                if (!field.getType().isPrimitive() && !Modifier.isStatic(field.getModifiers())) {
                    field.setAccessible(true);
                    collect(field.get(part), found);
                }
            }
        }
    }

    private static int elementsOf(Set<Object> parts) {
        int elements = 0;
        for (Object part : parts) {
            elements += part.getClass().isArray() ? Array.getLength(part) : part.getClass().getDeclaredFields().length;
        }
        return elements;
    }

    private MemoryTest() {}
}
