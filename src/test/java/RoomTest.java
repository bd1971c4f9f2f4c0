import com.sun.management.ThreadMXBean;
import java.lang.management.ManagementFactory;
import java.lang.reflect.Array;
import java.lang.reflect.Field;
import java.lang.reflect.Modifier;
import java.util.ArrayDeque;
import java.util.Arrays;
import java.util.Collections;
import java.util.IdentityHashMap;
import java.util.Set;

/**
 * All calls of one run live in one room. What the constructor makes, and beside it what the dearest
 * call makes times all calls, stay in it.
 */
public final class RoomTest {
    private static final int CALLS = 512;
    private static final long MOST_OBJECTS = 600_000;
    private static final long MOST_ELEMENTS = 7_300_000;
    // An object or array takes at least so many bytes, a field or element at least one: bytes that a
    // call made are counted as if they were the smallest objects, and as if they were all elements.
    private static final long LEAST_BYTES_OF_OBJECT = 8;

    private static final String[] METHODS = {
        "name", "factor", "put", "copies", "evidence", "memory", "place", "order", "taken", "told", "total", "share",
        "greatest", "best", "rank", "support", "among", "drawn", "apart", "weight",
    };
    private static final int FIRST_AFTER_CHANGES = 7;

    private final Check check = new Check();
    private final ThreadMXBean threads = (ThreadMXBean) ManagementFactory.getThreadMXBean();
    /** For each method the most bytes that one call of it made. */
    private final long[] dearest = new long[METHODS.length];
    private int calls;
    private long answers;

    public static void main(String[] args) {
        RoomTest test = new RoomTest();
        test.allRuns();
        // What the machine makes for itself, when a method is first used, is not of the class.
        Arrays.fill(test.dearest, 0);
        test.allRuns();
        test.room();
        test.check.end();
    }

    private void allRuns() {
        for (int method = FIRST_AFTER_CHANGES; method < METHODS.length; method++) {
            fullRun(method);
        }
        growingRun();
        wrongRun();
    }

    private long made() {
        return threads.getCurrentThreadAllocatedBytes();
    }

    private void call(TableOrders x, int method, int a, int b, int c) {
        long before = made();
        answers += answer(x, method, a, b, c);
        dearest[method] = Math.max(dearest[method], made() - before);
        calls++;
    }

    private static long answer(TableOrders x, int method, int a, int b, int c) {
        switch (method) {
            case 0: return x.name(a);
            case 1: return x.factor(a);
            case 2: return x.put(a, b, c);
            case 3: return x.copies(a, b);
            case 4: return x.evidence(a, b);
            case 5: return x.memory(a);
            case 6: return x.place(a, b);
            case 7: return x.order(a);
            case 8: return x.taken(a, b);
            case 9: return x.told(a);
            case 10: return x.total();
            case 11: return x.share(a, b, c);
            case 12: return x.greatest();
            case 13: return x.best(a);
            case 14: return x.rank(a, b);
            case 15: return x.support();
            case 16: return x.among(a, b);
            case 17: return x.drawn(a, b);
            case 18: return x.apart(a, b, c);
            default: return x.weight(a);
        }
    }

    private void endRun(TableOrders x) {
        check.holds(calls + " calls are no more than a run has", calls > 0 && calls <= CALLS);
        Held held = new Held(x);
        Held atFirst = new Held(new TableOrders());
        check.due("objects held after the calls", held.objects, atFirst.objects);
        check.due("fields and elements held after the calls", held.elements, atFirst.elements);
        calls = 0;
    }

    /** All names, states, factors; before each dear call the model changes, so that nothing found holds. */
    private void fullRun(int method) {
        TableOrders x = new TableOrders();
        for (int i = 0; i < 12; i++) {
            call(x, 0, i < 4 ? 4 : 2, 0, 0);
            call(x, 6, i, 11 - i, 0);
        }
        for (int i = 0; i < 12; i++) {
            call(x, 6, i, 11 - i, 0);
        }
        for (int i = 0; i < 16; i++) {
            call(x, 1, i == 0 ? 15 : 1 << i % 12 | 1 << (i + 3) % 12 | 1 << (i + 7) % 12 | 1 << 11, 0, 0);
            call(x, method, 5, 1, 1);
        }
        check.due("states of the full run", x.told(3), 65536);
        check.due("copies of the full run", x.told(2), 16);
        for (int i = 0; i < 12; i++) {
            call(x, 2, i % 16, i % 8, 1 + i % 7);
            call(x, method, i % 6, 1, 1);
        }
        endRun(x);
    }

    /** Names come one by one, and after each every other method is called. */
    private void growingRun() {
        TableOrders x = new TableOrders();
        for (int i = 0; i < 12; i++) {
            call(x, 0, i < 8 ? 2 : 4, 0, 0);
            call(x, 1, i < 3 ? 1 << i : 15 << i - 3, 0, 0);
            call(x, 7, 5, 0, 0);
            for (int method = 2; method < METHODS.length; method++) {
                call(x, method, 0, 1, 1);
            }
            call(x, 4, 0, -1, 0);
            call(x, 5, 65536, 0, 0);
            call(x, 3, 0, 2, 0);
        }
        check.due("names of the growing run", x.told(0), 12);
        endRun(x);
    }

    /** Calls that are refused, on an object without names and on one that is full. */
    private void wrongRun() {
        TableOrders x = new TableOrders();
        for (int method = 0; method < METHODS.length; method++) {
            call(x, method, -1, -2, -3);
            call(x, method, Integer.MAX_VALUE, Integer.MIN_VALUE, 5);
        }
        for (int i = 0; i < 20; i++) {
            call(x, 0, 4, 0, 0);
            call(x, 1, i % 2, 0, 0);
        }
        for (int method = 0; method < METHODS.length; method++) {
            call(x, method, -1, -2, -3);
            call(x, method, Integer.MAX_VALUE, Integer.MIN_VALUE, 5);
            call(x, method, 2, 1 << 20, 0);
        }
        endRun(x);
    }

    private void room() {
        new TableOrders();
        long before = made();
        TableOrders x = new TableOrders();
        long bytes = made() - before;
        Held held = new Held(x);
        check.holds("the constructor's " + bytes + " bytes stay in the room",
            bytes / LEAST_BYTES_OF_OBJECT <= MOST_OBJECTS && bytes <= MOST_ELEMENTS);
        for (int method = 0; method < METHODS.length; method++) {
            long objects = held.objects + dearest[method] / LEAST_BYTES_OF_OBJECT * CALLS;
            long elements = held.elements + dearest[method] * CALLS;
            String what = METHODS[method] + "() makes " + dearest[method] + " bytes; the constructor and " + CALLS + " calls ";
            check.holds(what + objects + " objects", objects <= MOST_OBJECTS);
            check.holds(what + elements + " elements", elements <= MOST_ELEMENTS);
            check.due("bytes that " + METHODS[method] + "() makes, as all rows are the constructor's", dearest[method], 0);
        }
        System.out.println("the constructor makes " + held.objects + " objects and arrays, " + held.elements
            + " fields and elements; of " + MOST_OBJECTS + " and " + MOST_ELEMENTS);
        check.holds("answers were used", answers != 0);
    }

    /** Counts an object with all that it holds: objects and arrays, and their fields and elements. */
    private static final class Held {
        private final Set<Object> seen = Collections.newSetFromMap(new IdentityHashMap<>());
        private final ArrayDeque<Object> open = new ArrayDeque<>();
        long objects;
        long elements;

        Held(Object first) {
            meet(first);
            while (!open.isEmpty()) {
                Object next = open.remove();
                objects++;
                if (next.getClass().isArray()) {
                    countArray(next);
                } else {
                    countFields(next);
                }
            }
        }

        private void meet(Object held) {
            if (held != null && seen.add(held)) {
                open.add(held);
            }
        }

        private void countArray(Object array) {
            int length = Array.getLength(array);
            elements += length;
            if (array instanceof Object[]) {
                for (int i = 0; i < length; i++) {
                    meet(Array.get(array, i));
                }
            }
        }

        private void countFields(Object held) {
            for (Field field : held.getClass().getDeclaredFields()) {
                if (!Modifier.isStatic(field.getModifiers())) {
                    elements++;
                    meet(field.getType().isPrimitive() ? null : valueOf(field, held));
                }
            }
        }

        private static Object valueOf(Field field, Object held) {
            try {
                field.setAccessible(true);
                return field.get(held);
            } catch (IllegalAccessException e) {
                throw new IllegalStateException(e);
            }
        }
    }
}
