import java.lang.management.ManagementFactory;
import java.lang.reflect.Array;
import java.lang.reflect.Field;
import java.lang.reflect.Modifier;
import java.util.ArrayDeque;
import java.util.Collections;
import java.util.Deque;
import java.util.IdentityHashMap;
import java.util.Set;

/** One room holds all calls of a run: a new object takes little of it, and its calls take none. */
public final class RoomTest {
    private static final int OBJECTS = 200;
    private static final int ELEMENTS = 7000;
    private static final int CALLS = 512;
    /** Less than one object a call; the machine itself may make one or two. */
    private static final int BYTES = 1000;

    private static int objects;
    private static int elements;

    private RoomTest() { }

    public static void main(String[] args) throws IllegalAccessException {
        count(new ScaffoldReasons());
        System.out.println("a new object: " + objects + " objects, " + elements + " fields and elements");
        boolean fits = objects <= OBJECTS && elements <= ELEMENTS
                && (long) objects * CALLS < 600_000 && (long) elements * CALLS < 7_300_000;
        // The first time the machine makes things of its own.
        dearCalls();
        dearCalls();
        long bytes = dearCalls();
        System.out.println("bytes that its calls take: " + bytes);
        if (!fits || bytes > BYTES) {
            System.out.println("that is too much");
            System.exit(1);
        }
    }

    private static void count(Object root) throws IllegalAccessException {
        Set<Object> seen = Collections.newSetFromMap(new IdentityHashMap<>());
        Deque<Object> line = new ArrayDeque<>();
        line.add(root);
        seen.add(root);
        while (!line.isEmpty()) {
            Object one = line.poll();
            objects++;
            if (one.getClass().isArray()) {
                elements += Array.getLength(one);
                if (one instanceof Object[] parts) {
                    for (Object part : parts) {
                        follow(part, seen, line);
                    }
                }
                continue;
            }
            for (Field f : one.getClass().getDeclaredFields()) {
                if (!Modifier.isStatic(f.getModifiers())) {
                    elements++;
                    f.setAccessible(true);
                    if (!f.getType().isPrimitive()) {
                        follow(f.get(one), seen, line);
                    }
                }
            }
        }
    }

    private static void follow(Object part, Set<Object> seen, Deque<Object> line) {
        if (part != null && seen.add(part)) {
            line.add(part);
        }
    }

    private static long dearCalls() {
        ScaffoldReasons x = new ScaffoldReasons();
        for (int i = 0; i < 8; i++) {
            x.plank(1 + i, i == 0 ? 0 : 1 << i - 1);
        }
        int[][] law = Texts.feeds("puts bits 7 of weight;falls if not wind<3 then heavy number else up*2 end;hour 60;");
        var threads = (com.sun.management.ThreadMXBean) ManagementFactory.getThreadMXBean();
        long id = Thread.currentThread().getId();
        threads.getThreadAllocatedBytes(id);
        long before = threads.getThreadAllocatedBytes(id);
        for (int[] f : law) {
            x.feed(f[0], f[1], f[2], f[3], f[4]);
        }
        x.end(81);
        x.text();
        x.by(0);
        for (int i = 0; i < 20; i++) {
            x.put(i % 8);
            x.object(i % 8, i * 5 % 7, true);
            x.played(0);
            x.hour(60);
            x.years(i, 40);
            x.foretold(60);
            x.preferred(0);
            x.naive(0);
            x.stables(0);
            x.inSets(0, true);
            x.repair(i % 8, true);
            x.explain(i, 0);
            x.orders(255);
            x.stand(255, true);
            x.vote(123);
            x.lead(2);
            x.said(i % 8, 3);
            x.whose();
            x.image();
            x.undo();
            x.back();
        }
        return threads.getThreadAllocatedBytes(id) - before;
    }
}
