import com.sun.management.ThreadMXBean;
import java.lang.management.ManagementFactory;
import java.lang.reflect.Array;
import java.lang.reflect.Field;
import java.lang.reflect.Modifier;
import java.util.ArrayDeque;
import java.util.Collections;
import java.util.Deque;
import java.util.IdentityHashMap;
import java.util.Set;

/**
 * What an object takes of the one room that all calls live in, and what its calls add to it (LANGUAGE.md,
 * rule 12): the room has some 600,000 objects and 7.3 million fields and elements.
 */
public final class RoomTest {
    private static final int MOST_OBJECTS = 300;
    private static final int MOST_ELEMENTS = 5_000;
    /** With the 61 that fill an object these stay below the document's 512. */
    private static final int CALLS = 450;
    private static final int MOST_BYTES_A_CALL = 200;

    private static int wrong = 0;

    private interface Call {
        void on(KeyCodec x);
    }

    private RoomTest() {
    }

    public static void main(String[] args) throws IllegalAccessException {
        KeyCodec x = filled();
        long[] before = count(x);
        check(before[0] <= MOST_OBJECTS, before[0] + " objects stand in one KeyCodec");
        check(before[1] <= MOST_ELEMENTS, before[1] + " fields and elements stand in one KeyCodec");
        for (int i = 0; i < CALLS / 10; i++) {
            useAll(x);
        }
        long[] after = count(x);
        check(after[0] == before[0] && after[1] == before[1], "calls made it grow to " + after[0] + ", " + after[1]);
        checkCalls();
        System.out.println(wrong == 0 ? before[0] + " objects, " + before[1] + " fields and elements, and no growth"
                : wrong + " things take too much room");
        if (wrong != 0) {
            System.exit(1);
        }
    }

    private static void check(boolean holds, String what) {
        if (!holds) {
            wrong++;
            System.out.println(what);
        }
    }

    /** Five fields with long values, nine tuples kept. */
    private static KeyCodec filled() {
        KeyCodec x = new KeyCodec();
        for (int f = 0; f < 5; f++) {
            x.field(f % 4, 2);
        }
        x.seal();
        for (int i = 0; i < 9; i++) {
            x.put(0, Long.MAX_VALUE - i, 0);
            x.put(1, -999_999_999_999_999L + i, 9);
            x.text(2, 0);
            x.put(3, (1L << 40) - i, 900);
            x.put(4, Long.MIN_VALUE + i, 0);
            x.keep();
        }
        x.encode();
        return x;
    }

    private static void useAll(KeyCodec x) {
        x.decode();
        x.encode();
        x.take(3);
        x.compare(1, 8);
        x.compareKeys(1, 8);
        x.rank(8);
        x.shared(8);
        x.bounds(2, 5);
        x.between(2, 4, 1, 8);
        x.within(8);
    }

    private static void checkCalls() {
        checkCall("decode", KeyCodec::decode);
        checkCall("encode", KeyCodec::encode);
        checkCall("put", x -> x.put(1, 123_456, 3));
        checkCall("take", x -> x.take(3));
        checkCall("compare", x -> x.compare(0, 8));
        checkCall("compareKeys", x -> x.compareKeys(0, 8));
        checkCall("rank", x -> x.rank(8));
        checkCall("shared", x -> x.shared(8));
        checkCall("bounds", x -> x.bounds(2, 5));
        checkCall("between", x -> x.between(2, 4, 1, 8));
        checkCall("within", x -> x.within(8));
    }

    /** What a call makes, by the bytes that its thread has been given. */
    private static void checkCall(String name, Call call) {
        ThreadMXBean thread = (ThreadMXBean) ManagementFactory.getThreadMXBean();
        KeyCodec x = filled();
        call.on(x);
        thread.getCurrentThreadAllocatedBytes();
        long before = thread.getCurrentThreadAllocatedBytes();
        for (int i = 1; i < CALLS; i++) {
            call.on(x);
        }
        long bytes = (thread.getCurrentThreadAllocatedBytes() - before) / CALLS;
        check(bytes <= MOST_BYTES_A_CALL, name + " makes " + bytes + " bytes a call");
    }

    /** How many objects can be reached from one, and how many fields and elements these have. */
    private static long[] count(Object start) throws IllegalAccessException {
        Set<Object> seen = Collections.newSetFromMap(new IdentityHashMap<>());
        Deque<Object> open = new ArrayDeque<>();
        open.add(start);
        long elements = 0;
        while (!open.isEmpty()) {
            Object one = open.remove();
            if (seen.add(one)) {
                elements += one.getClass().isArray() ? openArray(one, open) : openFields(one, open);
            }
        }
        return new long[] {seen.size(), elements};
    }

    private static int openArray(Object array, Deque<Object> open) {
        int length = Array.getLength(array);
        for (int i = 0; i < length && !array.getClass().getComponentType().isPrimitive(); i++) {
            addIfThere(Array.get(array, i), open);
        }
        return length;
    }

    private static int openFields(Object one, Deque<Object> open) throws IllegalAccessException {
        int fields = 0;
        for (Field field : one.getClass().getDeclaredFields()) {
            if (!Modifier.isStatic(field.getModifiers())) {
                fields++;
                field.setAccessible(true);
                addIfThere(field.getType().isPrimitive() ? null : field.get(one), open);
            }
        }
        return fields;
    }

    private static void addIfThere(Object one, Deque<Object> open) {
        if (one != null) {
            open.add(one);
        }
    }
}
