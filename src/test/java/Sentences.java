import java.util.ArrayList;
import java.util.Arrays;
import java.util.List;
import java.util.stream.Stream;

/**
 * What the tests of the document's sentences are written with. Each test goes under the words of the
 * sentence (or the part of one) that it would fail for.
 */
abstract class Sentences {
    static final int NONE = -1;
    static final int INT = 0;
    static final int DECIMAL = 1;
    static final int TEXT = 2;
    static final int INSTANT = 3;
    static final int DOWN = 1;
    static final int OPTIONAL = 2;
    static final int LAST = 4;
    static final long LIMIT = 1_000_000_000_000_000L;
    static final long FAR = 1L << 40;
    static final String STATE = "IllegalStateException";
    static final String ARGUMENT = "IllegalArgumentException";
    static final String NO_END = "no end";
    static final int LEAST = Integer.MIN_VALUE;
    static final int MOST = Integer.MAX_VALUE;

    /** A sentence's words, and the section that they stand in. */
    record Quote(String section, String words) {
    }

    interface Call {
        Object of(KeyCodec x);
    }

    private static final List<Quote> QUOTES = new ArrayList<>();
    private static String section = "";
    private static String words = "";
    private static int wrong = 0;
    private static int answers = 0;

    static List<Quote> quotes() {
        return QUOTES;
    }

    static int wrongAnswers() {
        return wrong;
    }

    static int allAnswers() {
        return answers;
    }

    static void section(String heading) {
        section = heading;
    }

    static void sentence(String quote, Runnable test) {
        words = quote;
        QUOTES.add(new Quote(section, quote));
        int before = answers;
        try {
            test.run();
        } catch (RuntimeException e) {
            fail("the test was ended by " + e);
        }
        if (answers == before) {
            fail("the test looked at no answer");
        }
    }

    static void fail(String what) {
        wrong++;
        System.out.println(section + ", \"" + words + "\": " + what);
    }

    static void due(String what, Object got, Object want) {
        answers++;
        if (!String.valueOf(got).equals(String.valueOf(want))) {
            fail(what + " answered " + got + ", due is " + want);
        }
    }

    /** The call's answer, or the name of what it throws. */
    static Object answer(KeyCodec x, Call call) {
        try {
            return call.of(x);
        } catch (RuntimeException e) {
            return e.getClass().getSimpleName();
        }
    }

    /** The call answers (or throws) what is due, and alters nothing that the object shows. */
    static void dueStaying(KeyCodec x, String what, Object want, Call call) {
        String before = shown(x);
        due(what, answer(x, call), want);
        due("what stands behind " + what, shown(x), before);
    }

    static String shown(KeyCodec x) {
        return tuple(x) + shownBesideTuple(x);
    }

    static String shownBesideTuple(KeyCodec x) {
        return " key " + keyRow(x) + shownBesideRows(x);
    }

    static String shownBesideRows(KeyCodec x) {
        return " kept " + x.kept() + " LOW " + bound(x, 0) + " HIGH " + bound(x, 1);
    }

    /** The loaded tuple, a list for each field; none if the schema is open. */
    static List<Object> tuple(KeyCodec x) {
        List<Object> values = new ArrayList<>();
        for (int f = 0; f < 5 && x.get(f, 0) != NONE; f++) {
            values.add(value(x, f));
        }
        return values;
    }

    /** Of a field of the loaded tuple: 1 if it is ABSENT, number, form, bytes. */
    static List<Long> value(KeyCodec x, int f) {
        List<Long> parts = new ArrayList<>(List.of(x.get(f, 0), x.get(f, 1), x.get(f, 2)));
        for (int what = 3; what < 13 && x.get(f, what) != NONE; what++) {
            parts.add(x.get(f, what));
        }
        return parts;
    }

    static List<Integer> keyRow(KeyCodec x) {
        List<Integer> bytes = new ArrayList<>();
        int size = x.key(-1);
        for (int k = 0; k < size; k++) {
            bytes.add(x.key(k));
        }
        return bytes;
    }

    static Object bound(KeyCodec x, int how) {
        int size = x.bound(how, -1);
        if (size == NONE) {
            return NO_END;
        }
        List<Integer> bytes = new ArrayList<>();
        for (int j = 0; j < size; j++) {
            bytes.add(x.bound(how, j));
        }
        return bytes;
    }

    static void dueBounds(KeyCodec x, Object low, Object high) {
        due("LOW", bound(x, 0), low);
        due("HIGH", bound(x, 1), high);
    }

    static void dueKey(KeyCodec x, int... bytes) {
        due("encode()", x.encode(), bytes.length);
        due("the key", keyRow(x), row(bytes));
    }

    static List<Integer> row(int... bytes) {
        List<Integer> all = new ArrayList<>();
        for (int b : bytes) {
            all.add(b);
        }
        return all;
    }

    static int[] repeated(int b, int times) {
        int[] bytes = new int[times];
        Arrays.fill(bytes, b);
        return bytes;
    }

    static int[] joined(int[]... parts) {
        return Stream.of(parts).flatMapToInt(Arrays::stream).toArray();
    }

    static int[] bytes(int... bytes) {
        return bytes;
    }

    /** An object with an open schema: kind, flags, kind, flags, .. */
    static KeyCodec open(int... kindsAndFlags) {
        KeyCodec x = new KeyCodec();
        for (int i = 0; i < kindsAndFlags.length; i += 2) {
            x.field(kindsAndFlags[i], kindsAndFlags[i + 1]);
        }
        return x;
    }

    static KeyCodec sealedWith(int... kindsAndFlags) {
        KeyCodec x = open(kindsAndFlags);
        x.seal();
        return x;
    }

    /** Kinds and flags of five fields of one kind. */
    static int[] fiveOf(int kind) {
        return new int[] {kind, 0, kind, 0, kind, 0, kind, 0, kind, 0};
    }

    /** Gives a field of this kind a value that is not the first one, in all that it has. */
    static void setAny(KeyCodec x, int field, int kind) {
        if (kind == TEXT) {
            putText(x, field, 7, 0, 8);
        } else {
            x.put(field, -1200, kind == INT ? 0 : 4);
        }
    }

    /** Four optional fields, one of each kind, open. */
    static KeyCodec openKinds() {
        return open(INT, OPTIONAL, DECIMAL, OPTIONAL, TEXT, OPTIONAL, INSTANT, OPTIONAL);
    }

    /** These four sealed and filled, two tuples kept, a key in the key row and bounds set. */
    static KeyCodec filledKinds() {
        KeyCodec x = openKinds();
        x.seal();
        x.keep();
        fill(x);
        x.keep();
        x.encode();
        x.bounds(1, 1);
        return x;
    }

    /** Puts something that is not the first value into each field of openKinds. */
    static void fill(KeyCodec x) {
        x.put(0, 77, 0);
        x.put(1, -88, 3);
        putText(x, 2, 200, 0);
        x.put(3, 99, -5);
    }

    static void putText(KeyCodec x, int field, int... bytes) {
        x.put(field, 0, 0);
        for (int b : bytes) {
            x.text(field, b);
        }
    }

    static void loadRow(KeyCodec x, int... bytes) {
        x.clearKey();
        for (int b : bytes) {
            x.load(1, b);
        }
    }

    static int keepNumber(KeyCodec x, long number, int form) {
        x.put(0, number, form);
        return x.keep();
    }

    static int keepText(KeyCodec x, int... bytes) {
        putText(x, 0, bytes);
        return x.keep();
    }
}
