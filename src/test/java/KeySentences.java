import java.util.ArrayList;
import java.util.List;

/** The section Terms: the bytes of a key; and what the document's first sentence says of keys. */
final class KeySentences extends Sentences {
    private static final String FIRST = "Keys for tuples of typed fields: rows of bytes whose plain order is that of "
            + "the tuples, that can be read back, and none of which begins another one; bounds for what has some "
            + "fields in common, ranks, and what neighbours share.";
    private static final String MARKS = "A field's bytes: for an optional one a byte: 0 ABSENT or 1 present, or, if it "
            + "is LAST, 2 or 1";
    private static final String NOT_BELOW = "An INT v: if it is not below 0, n bytes, as many as it needs (0 for 0), "
            + "behind 128 + n, the highest first";
    private static final String BELOW = "if it is, as many as -1 - v needs, n, behind 127 - n: the lowest n bytes of "
            + "v, the highest first.";
    private static final String FRACTION = "Else it is, but for the sign, a fraction 0.D1 D2 .. Dm times 10 to the "
            + "power E, D1 and Dm not 0: 3, E + 64, D1 + 1, .. Dm + 1, 0";
    private static final String TAIL = "The TAIL has for each field, in order, that is not ABSENT: of a DECIMAL its "
            + "scale, of an INSTANT 1000 more than its offset (two bytes, the higher one first).";

    private KeySentences() {
    }

    static void all() {
        section("What it is");
        sentence(FIRST, KeySentences::keysAreInOrder);
        sentence(FIRST, KeySentences::keysAreReadBack);
        sentence(FIRST, KeySentences::noKeyBeginsAnother);
        section("Terms");
        sentence("THE KEY of a tuple: its fields' bytes one behind the other, then the TAIL.", KeySentences::wholeKey);
        sentence(MARKS, KeySentences::marks);
        sentence(MARKS, KeySentences::noMarkIfNotOptional);
        sentence("then, if it is present, those of its value, each turned to 255 less it if the field is DOWN.",
                KeySentences::downTurnsValuesAlone);
        sentence(NOT_BELOW, KeySentences::intsFromZero);
        sentence(BELOW, KeySentences::intsBelowZero);
        sentence("A TEXT: its bytes, each 0 with a 255 behind it, then 0 and 1.", KeySentences::texts);
        sentence("An INSTANT: its seconds as an INT.", KeySentences::instants);
        sentence("A DECIMAL: 2 if it is 0.", KeySentences::decimalZero);
        sentence(FRACTION, KeySentences::decimalsAboveZero);
        sentence(FRACTION, KeySentences::decimalsAtTheLimits);
        sentence("if it is below 0: 1, and of all behind the 3 255 less.", KeySentences::decimalsBelowZero);
        sentence(TAIL, KeySentences::scalesInTheTail);
        sentence(TAIL, KeySentences::offsetsInTheTail);
        sentence(TAIL, KeySentences::noTailOfAbsent);
        sentence(TAIL, KeySentences::tailInOrder);
    }

    private static void dueKeyOf(int kind, int flags, long number, int form, int... bytes) {
        KeyCodec x = sealedWith(kind, flags);
        due("put(0, " + number + ", " + form + ")", x.put(0, number, form), true);
        dueKey(x, bytes);
    }

    private static void dueKeyOfText(int flags, int[] text, int... bytes) {
        KeyCodec x = sealedWith(TEXT, flags);
        putText(x, 0, text);
        dueKey(x, bytes);
    }

    /** An object with twelve kept tuples that lie close together, or at the ends. */
    private static KeyCodec withCloseTuples(int flags) {
        KeyCodec x = sealedWith(TEXT, flags, DECIMAL, flags, INSTANT, flags);
        int[][] texts = {{}, {0}, {97}, {97, 0}};
        long[][] numbers = {{0, 0}, {-LIMIT, 9}, {LIMIT, 0}};
        for (int i = 0; i < 12; i++) {
            putText(x, 0, texts[i % 4]);
            x.put(1, numbers[i % 3][0], (int) numbers[i % 3][1]);
            x.put(2, i % 2 == 0 ? FAR : -FAR, i * 100 - 500);
            if (i == 5) {
                x.absent(1);
            }
            if (i == 7) {
                x.absent(0);
            }
            x.keep();
        }
        return x;
    }

    private static List<List<Integer>> keysOf(int flags) {
        KeyCodec x = withCloseTuples(flags);
        List<List<Integer>> keys = new ArrayList<>();
        for (int i = 0; i < 12; i++) {
            x.take(i);
            x.encode();
            keys.add(keyRow(x));
        }
        return keys;
    }

    private static void keysAreInOrder() {
        for (int flags = 0; flags <= 7; flags++) {
            KeyCodec x = withCloseTuples(flags);
            for (int a = 0; a < 12; a++) {
                for (int b = a + 1; b < 12; b++) {
                    int order = x.compare(a, b);
                    due("compareKeys(" + a + ", " + b + ")", x.compareKeys(a, b), order == 0 ? -1 : order);
                }
            }
        }
    }

    private static void keysAreReadBack() {
        for (int flags = 0; flags <= 7; flags++) {
            for (int i = 0; i < 12; i++) {
                KeyCodec x = withCloseTuples(flags);
                x.take(i);
                Object tuple = tuple(x);
                x.encode();
                x.take((i + 1) % 12);
                due("decode()", answer(x, KeyCodec::decode), true);
                due("the tuple", tuple(x), tuple);
            }
        }
    }

    private static void noKeyBeginsAnother() {
        for (int flags = 0; flags <= 7; flags++) {
            List<List<Integer>> keys = keysOf(flags);
            for (int a = 0; a < 12; a++) {
                for (int b = 0; b < 12; b++) {
                    List<Integer> one = keys.get(a);
                    List<Integer> other = keys.get(b);
                    boolean begins = one.size() <= other.size() && other.subList(0, one.size()).equals(one);
                    due("key " + a + " begins key " + b, begins, a == b);
                }
            }
        }
    }

    private static void wholeKey() {
        KeyCodec x = filledKinds();
        dueKey(x, 1, 129, 77, 1, 1, 192, 246, 246, 255, 1, 200, 0, 255, 0, 1, 1, 129, 99, 3, 3, 227);
        KeyCodec y = sealedWith(INSTANT, DOWN, DECIMAL, OPTIONAL, INSTANT, OPTIONAL, DECIMAL, DOWN, TEXT, 0);
        y.put(0, -FAR, 900);
        y.put(1, 5, 1);
        y.put(2, FAR, -900);
        y.put(3, 0, 7);
        dueKey(y, 133, 255, 255, 255, 255, 255, 1, 3, 64, 6, 0, 1, 134, 1, 0, 0, 0, 0, 0, 253, 0, 1,
                7, 108, 1, 0, 100, 7);
    }

    private static void marks() {
        int[][] absentMarks = {{OPTIONAL, 0}, {OPTIONAL | DOWN, 0}, {OPTIONAL | LAST, 2}, {OPTIONAL | LAST | DOWN, 2}};
        for (int[] pair : absentMarks) {
            for (int kind = 0; kind <= 3; kind++) {
                KeyCodec x = sealedWith(kind, pair[0]);
                x.encode();
                due("the mark of what is present", x.key(0), 1);
                x.absent(0);
                dueKey(x, pair[1]);
            }
        }
    }

    private static void noMarkIfNotOptional() {
        for (int flags : bytes(0, LAST)) {
            dueKey(sealedWith(INT, flags), 128);
            dueKey(sealedWith(DECIMAL, flags), 2, 0);
            dueKey(sealedWith(TEXT, flags), 0, 1);
            dueKey(sealedWith(INSTANT, flags), 128, 3, 232);
        }
    }

    private static void downTurnsValuesAlone() {
        dueKeyOf(INT, DOWN, 0, 0, 127);
        dueKeyOf(INT, DOWN, -1, 0, 128);
        dueKeyOf(INT, DOWN | OPTIONAL, 300, 0, 1, 125, 254, 211);
        dueKeyOf(DECIMAL, DOWN, 0, 4, 253, 4);
        dueKeyOf(DECIMAL, DOWN, 1050, 2, 252, 189, 253, 254, 249, 255, 2);
        dueKeyOf(DECIMAL, DOWN, -1050, 2, 254, 66, 2, 1, 6, 0, 2);
        dueKeyOfText(DOWN, bytes(), 255, 254);
        dueKeyOfText(DOWN, bytes(97, 0, 255), 158, 255, 0, 0, 255, 254);
        dueKeyOf(INSTANT, DOWN | OPTIONAL | LAST, -2, 900, 1, 129, 1, 7, 108);
    }

    private static void intsFromZero() {
        dueKeyOf(INT, 0, 0, 0, 128);
        for (int n = 1; n <= 7; n++) {
            dueKeyOf(INT, 0, 1L << 8 * (n - 1), 0, joined(bytes(128 + n, 1), repeated(0, n - 1)));
            dueKeyOf(INT, 0, (1L << 8 * n) - 1, 0, joined(bytes(128 + n), repeated(255, n)));
        }
        dueKeyOf(INT, 0, 1L << 56, 0, joined(bytes(136, 1), repeated(0, 7)));
        dueKeyOf(INT, 0, Long.MAX_VALUE, 0, joined(bytes(136, 127), repeated(255, 7)));
        dueKeyOf(INT, 0, 0x0102030405060708L, 0, 136, 1, 2, 3, 4, 5, 6, 7, 8);
    }

    private static void intsBelowZero() {
        dueKeyOf(INT, 0, -1, 0, 127);
        for (int n = 1; n <= 7; n++) {
            dueKeyOf(INT, 0, -1 - (1L << 8 * (n - 1)), 0, joined(bytes(127 - n, 254), repeated(255, n - 1)));
            dueKeyOf(INT, 0, -(1L << 8 * n), 0, joined(bytes(127 - n), repeated(0, n)));
        }
        dueKeyOf(INT, 0, -1 - (1L << 56), 0, joined(bytes(119, 254), repeated(255, 7)));
        dueKeyOf(INT, 0, Long.MIN_VALUE, 0, joined(bytes(119, 128), repeated(0, 7)));
        dueKeyOf(INT, 0, -0x0102030405060708L, 0, 119, 254, 253, 252, 251, 250, 249, 248, 248);
    }

    private static void texts() {
        dueKeyOfText(0, bytes(), 0, 1);
        dueKeyOfText(0, bytes(0), 0, 255, 0, 1);
        dueKeyOfText(0, bytes(1), 1, 0, 1);
        dueKeyOfText(0, bytes(255), 255, 0, 1);
        dueKeyOfText(0, bytes(0, 0, 1, 255, 0), 0, 255, 0, 255, 1, 255, 0, 255, 0, 1);
        dueKeyOfText(0, repeated(7, 10), joined(repeated(7, 10), bytes(0, 1)));
        KeyCodec x = sealedWith(TEXT, 0);
        putText(x, 0, repeated(0, 10));
        due("ten zeros", x.encode(), 22);
    }

    private static void instants() {
        dueKeyOf(INSTANT, 0, 0, 0, 128, 3, 232);
        dueKeyOf(INSTANT, 0, FAR, 0, 134, 1, 0, 0, 0, 0, 0, 3, 232);
        dueKeyOf(INSTANT, 0, FAR - 1, 0, 133, 255, 255, 255, 255, 255, 3, 232);
        dueKeyOf(INSTANT, 0, -FAR, 0, 122, 0, 0, 0, 0, 0, 3, 232);
        dueKeyOf(INSTANT, 0, -1, 0, 127, 3, 232);
        dueKeyOf(INSTANT, 0, 300, 0, 130, 1, 44, 3, 232);
    }

    private static void decimalZero() {
        for (int scale = 0; scale <= 9; scale++) {
            dueKeyOf(DECIMAL, 0, 0, scale, 2, scale);
            dueKeyOf(DECIMAL, OPTIONAL, 0, scale, 1, 2, scale);
        }
    }

    private static void decimalsAboveZero() {
        dueKeyOf(DECIMAL, 0, 1, 0, 3, 65, 2, 0, 0);
        dueKeyOf(DECIMAL, 0, 9, 0, 3, 65, 10, 0, 0);
        dueKeyOf(DECIMAL, 0, 10, 0, 3, 66, 2, 0, 0);
        dueKeyOf(DECIMAL, 0, 99, 0, 3, 66, 10, 10, 0, 0);
        dueKeyOf(DECIMAL, 0, 10, 1, 3, 65, 2, 0, 1);
        dueKeyOf(DECIMAL, 0, 1, 1, 3, 64, 2, 0, 1);
        dueKeyOf(DECIMAL, 0, 1, 2, 3, 63, 2, 0, 2);
        dueKeyOf(DECIMAL, 0, 1050, 2, 3, 66, 2, 1, 6, 0, 2);
        dueKeyOf(DECIMAL, 0, 1001000, 0, 3, 71, 2, 1, 1, 2, 0, 0);
        dueKeyOf(DECIMAL, 0, 123456789, 4, 3, 69, 2, 3, 4, 5, 6, 7, 8, 9, 10, 0, 4);
    }

    private static void decimalsAtTheLimits() {
        int[] nines = repeated(10, 15);
        dueKeyOf(DECIMAL, 0, LIMIT, 0, 3, 80, 2, 0, 0);
        dueKeyOf(DECIMAL, 0, LIMIT, 9, 3, 71, 2, 0, 9);
        dueKeyOf(DECIMAL, 0, LIMIT - 1, 0, joined(bytes(3, 79), nines, bytes(0, 0)));
        dueKeyOf(DECIMAL, 0, LIMIT - 1, 9, joined(bytes(3, 70), nines, bytes(0, 9)));
        dueKeyOf(DECIMAL, 0, 1, 9, 3, 56, 2, 0, 9);
        dueKeyOf(DECIMAL, 0, LIMIT / 10, 0, 3, 79, 2, 0, 0);
        dueKeyOf(DECIMAL, 0, LIMIT / 10 + 1, 0, joined(bytes(3, 79, 2), repeated(1, 13), bytes(2, 0, 0)));
    }

    private static void decimalsBelowZero() {
        dueKeyOf(DECIMAL, 0, -1, 0, 1, 190, 253, 255, 0);
        dueKeyOf(DECIMAL, 0, -1050, 2, 1, 189, 253, 254, 249, 255, 2);
        dueKeyOf(DECIMAL, 0, -LIMIT, 0, 1, 175, 253, 255, 0);
        dueKeyOf(DECIMAL, 0, -LIMIT, 9, 1, 184, 253, 255, 9);
        dueKeyOf(DECIMAL, 0, 1 - LIMIT, 0, joined(bytes(1, 176), repeated(245, 15), bytes(255, 0)));
        dueKeyOf(DECIMAL, 0, -1, 9, 1, 199, 253, 255, 9);
    }

    private static void scalesInTheTail() {
        for (int scale = 0; scale <= 9; scale++) {
            KeyCodec x = sealedWith(DECIMAL, DOWN);
            x.put(0, LIMIT, scale);
            due("the key's last", x.key(x.encode() - 1), scale);
        }
    }

    private static void offsetsInTheTail() {
        int[][] tails = {{-900, 0, 100}, {-899, 0, 101}, {-745, 0, 255}, {-744, 1, 0}, {-1, 3, 231}, {0, 3, 232},
            {1, 3, 233}, {23, 3, 255}, {24, 4, 0}, {899, 7, 107}, {900, 7, 108}};
        for (int[] tail : tails) {
            dueKeyOf(INSTANT, 0, 0, tail[0], 128, tail[1], tail[2]);
            dueKeyOf(INSTANT, DOWN, 0, tail[0], 127, tail[1], tail[2]);
        }
    }

    private static void noTailOfAbsent() {
        KeyCodec x = sealedWith(DECIMAL, OPTIONAL, INSTANT, OPTIONAL, DECIMAL, 0);
        x.put(0, 0, 1);
        x.put(1, 0, 2);
        x.put(2, 0, 3);
        dueKey(x, 1, 2, 1, 128, 2, 1, 3, 234, 3);
        x.absent(0);
        dueKey(x, 0, 1, 128, 2, 3, 234, 3);
        x.absent(1);
        dueKey(x, 0, 0, 2, 3);
    }

    private static void tailInOrder() {
        KeyCodec x = sealedWith(INSTANT, 0, INT, 0, DECIMAL, 0, TEXT, 0, DECIMAL, 0);
        x.put(0, 0, 900);
        x.put(2, 0, 4);
        x.put(4, 0, 5);
        dueKey(x, 128, 128, 2, 0, 1, 2, 7, 108, 4, 5);
    }
}
