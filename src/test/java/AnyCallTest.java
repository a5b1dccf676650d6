import java.lang.reflect.InvocationTargetException;
import java.lang.reflect.Method;
import java.lang.reflect.Modifier;
import java.util.ArrayList;
import java.util.Arrays;
import java.util.Collections;
import java.util.Comparator;
import java.util.List;

/**
 * Any call with any arguments in any state: it throws nothing but what its head names, and the same calls on
 * a new object answer the same, whatever is called on another one meanwhile (LANGUAGE.md, rules 5 to 7, 13).
 * The runs are the same every time.
 */
public final class AnyCallTest {
    private static final int RUNS = 1500;
    private static final int CALLS = 512;
    private static final int[] FAR_INTS = {Integer.MIN_VALUE, Integer.MIN_VALUE + 1, Integer.MIN_VALUE + 2, -901, -900,
        -128, -2, 6, 7, 8, 9, 10, 11, 12, 13, 119, 120, 121, 255, 256, 900, 901, Integer.MAX_VALUE - 1,
        Integer.MAX_VALUE};
    private static final long[] FAR_LONGS = {Long.MIN_VALUE, Long.MIN_VALUE + 1, -(1L << 40) - 1, -(1L << 40),
        -1_000_000_000_000_001L, -1_000_000_000_000_000L, -257, -256, -1, 255, 256, 1L << 40, (1L << 40) + 1,
        999_999_999_999_999L, 1_000_000_000_000_000L, 1_000_000_000_000_001L, Long.MAX_VALUE - 1, Long.MAX_VALUE};

    private static int wrong = 0;
    private static long seed = 42;

    /** A method of the face with its arguments. */
    private record Call(Method method, Object[] arguments) {
        Object answer(KeyCodec x) throws IllegalAccessException {
            try {
                return method.invoke(x, arguments);
            } catch (InvocationTargetException e) {
                return e.getCause();
            }
        }

        boolean allows(Object answer) {
            return !(answer instanceof Throwable)
                    || Arrays.asList(method.getExceptionTypes()).contains(answer.getClass());
        }

        String shown() {
            return method.getName() + Arrays.toString(arguments);
        }
    }

    private AnyCallTest() {
    }

    private static int pick(int n) {
        seed = seed * 6364136223846793005L + 1442695040888963407L;
        return (int) ((seed >>> 33) % n);
    }

    public static void main(String[] args) throws IllegalAccessException {
        List<Method> face = face();
        for (int run = 0; run < RUNS; run++) {
            runOnce(run, face);
        }
        System.out.println(wrong == 0
                ? (long) RUNS * CALLS + " calls threw only what they may" : wrong + " calls are not as due");
        if (wrong != 0) {
            System.exit(1);
        }
    }

    /** The public methods, in an order that does not depend on the machine. */
    private static List<Method> face() {
        List<Method> face = new ArrayList<>();
        for (Method method : KeyCodec.class.getDeclaredMethods()) {
            if (Modifier.isPublic(method.getModifiers())) {
                face.add(method);
            }
        }
        face.sort(Comparator.comparing(Method::getName));
        return face;
    }

    private static void runOnce(int run, List<Method> face) throws IllegalAccessException {
        List<Call> calls = someCalls(face);
        List<String> answers = new ArrayList<>();
        KeyCodec alone = new KeyCodec();
        for (Call call : calls) {
            Object answer = call.answer(alone);
            check(call.allows(answer), "run " + run + ": " + call.shown() + " threw " + answer);
            answers.add(shown(answer));
        }
        KeyCodec again = new KeyCodec();
        KeyCodec beside = new KeyCodec();
        for (int i = 0; i < CALLS; i++) {
            calls.get(CALLS - 1 - i).answer(beside);
            String answer = shown(calls.get(i).answer(again));
            check(answer.equals(answers.get(i)), "run " + run + ": " + calls.get(i).shown() + " answered "
                    + answers.get(i) + ", and " + answer + " with another object beside it");
        }
    }

    private static List<Call> someCalls(List<Method> face) {
        List<Call> calls = new ArrayList<>();
        int fields = pick(6);
        while (calls.size() < CALLS) {
            Method method = next(calls.size(), fields, face);
            Call call = new Call(method, argumentsOf(method));
            // Now and then one call many times over: a text, the key row and what is kept get full so.
            int times = calls.size() > fields && pick(20) == 0 ? 16 : 1;
            calls.addAll(Collections.nCopies(Math.min(times, CALLS - calls.size()), call));
        }
        return calls;
    }

    /** A run begins with a few fields and a seal, or it would seldom get beyond an open schema. */
    private static Method next(int call, int fields, List<Method> face) {
        String wanted = call < fields ? "field" : call == fields ? "seal" : "";
        Method found = face.get(pick(face.size()));
        while (found.getName().equals("clear") && pick(50) != 0) {
            found = face.get(pick(face.size()));
        }
        for (Method method : face) {
            found = method.getName().equals(wanted) ? method : found;
        }
        return found;
    }

    private static Object[] argumentsOf(Method method) {
        Class<?>[] types = method.getParameterTypes();
        Object[] arguments = new Object[types.length];
        for (int i = 0; i < types.length; i++) {
            if (types[i] == int.class) {
                arguments[i] = pick(6) == 0 ? FAR_INTS[pick(FAR_INTS.length)] : pick(5) - (pick(6) == 0 ? 1 : 0);
            } else {
                arguments[i] = pick(2) == 0 ? FAR_LONGS[pick(FAR_LONGS.length)] : (long) pick(3);
            }
        }
        return arguments;
    }

    private static String shown(Object answer) {
        return answer instanceof Throwable ? answer.getClass().getName() : String.valueOf(answer);
    }

    private static void check(boolean holds, String what) {
        if (!holds) {
            wrong++;
            if (wrong < 20) {
                System.out.println(what);
            }
        }
    }
}
