import java.util.Arrays;
import java.util.HashSet;
import java.util.List;
import java.util.Set;

/** Promise 13: decode, row by row. */
final class DecodeSentences extends Sentences {
    private static final String BECOMES = "The loaded tuple becomes that of the key row: true.";
    private static final String NO_TUPLE = "IllegalArgumentException if no tuple of the schema has it as its key";

    private DecodeSentences() {
    }

    static void all() {
        section("Promise 13");
        sentence(BECOMES, DecodeSentences::wholeTupleIsRead);
        sentence(BECOMES, DecodeSentences::fiveFieldsAreRead);
        sentence(BECOMES, DecodeSentences::eachKindIsReadInEachPlace);
        sentence(BECOMES, DecodeSentences::longestKeyIsRead);
        sentence(BECOMES, DecodeSentences::absentIsRead);
        sentence(BECOMES, DecodeSentences::onlyLoadedTupleChanges);
        sentence("IllegalStateException if the schema is open", DecodeSentences::decodeWhileOpen);
        sentence("IllegalStateException if the schema is open", DecodeSentences::stateBeforeArgument);
        sentence(NO_TUPLE, DecodeSentences::emptyAndFullRows);
        sentence(NO_TUPLE, DecodeSentences::everyRowOfTwoBytes);
        sentence(NO_TUPLE, DecodeSentences::everyOffset);
        sentence(NO_TUPLE, DecodeSentences::shorterAndLongerRows);
        sentence(NO_TUPLE, DecodeSentences::intMarks);
        sentence(NO_TUPLE, DecodeSentences::intsLongerThanNeeded);
        sentence(NO_TUPLE, DecodeSentences::intsBeyondLong);
        sentence(NO_TUPLE, DecodeSentences::textLengths);
        sentence(NO_TUPLE, DecodeSentences::zerosInTexts);
        sentence(NO_TUPLE, DecodeSentences::decimalMarks);
        sentence(NO_TUPLE, DecodeSentences::decimalDigits);
        sentence(NO_TUPLE, DecodeSentences::decimalLimit);
        sentence(NO_TUPLE, DecodeSentences::decimalScales);
        sentence(NO_TUPLE, DecodeSentences::decimalExponents);
        sentence(NO_TUPLE, DecodeSentences::seconds);
        sentence(NO_TUPLE, DecodeSentences::offsets);
        sentence(NO_TUPLE, DecodeSentences::optionalMarks);
        sentence(NO_TUPLE, DecodeSentences::tailOfAbsent);
        sentence(NO_TUPLE, DecodeSentences::turnedRows);
        sentence("(the loaded tuple stays).", DecodeSentences::refusedLeavesTuple);
    }

    /** The row is the key of a tuple with this one field. */
    private static void dueRead(int kind, int flags, String value, int... bytes) {
        KeyCodec x = sealedWith(kind, flags);
        loadRow(x, bytes);
        due("decode() of " + row(bytes), answer(x, KeyCodec::decode), true);
        due("what is read of " + row(bytes), value(x, 0), value);
        due("the key row", keyRow(x), row(bytes));
        due("encode()", x.encode(), bytes.length);
        due("the key row written anew", keyRow(x), row(bytes));
    }

    /** No tuple with this one field has the row as its key. */
    private static void dueNoKey(int kind, int flags, int... bytes) {
        KeyCodec x = sealedWith(kind, flags);
        if (kind == TEXT) {
            x.text(0, 42);
        } else {
            x.put(0, 42, kind == INT ? 0 : 1);
        }
        loadRow(x, bytes);
        dueStaying(x, "decode() of " + row(bytes), ARGUMENT, KeyCodec::decode);
    }

    private static void wholeTupleIsRead() {
        KeyCodec x = filledKinds();
        String tuple = tuple(x).toString();
        x.take(0);
        due("another is loaded", tuple(x).toString().equals(tuple), false);
        due("decode()", x.decode(), true);
        due("the tuple", tuple(x), tuple);
        due("decode() again", x.decode(), true);
        due("the tuple", tuple(x), tuple);
    }

    private static void fiveFieldsAreRead() {
        KeyCodec x = sealedWith(INSTANT, 0, DECIMAL, DOWN, INSTANT, DOWN, DECIMAL, OPTIONAL, INSTANT, OPTIONAL | LAST);
        loadRow(x, 129, 5, 253, 126, 250, 1, 3, 65, 2, 6, 0, 1, 127, 0, 100, 9, 7, 108, 2, 3, 232);
        due("decode()", x.decode(), true);
        due("the tuple", tuple(x), "[[0, 5, -900], [0, 0, 9], [0, 5, 900], [0, 150, 2], [0, -1, 0]]");
        loadRow(x, 128, 253, 127, 0, 2, 0, 100, 0, 3, 233);
        due("decode(), the last two ABSENT", x.decode(), true);
        due("the tuple", tuple(x), "[[0, 0, -900], [0, 0, 0], [0, 0, 1], [1, 0, 0], [1, 0, 0]]");
    }

    private static void eachKindIsReadInEachPlace() {
        for (int kind = INT; kind <= INSTANT; kind++) {
            for (int f = 0; f < 5; f++) {
                KeyCodec x = sealedWith(fiveOf(kind));
                x.keep();
                setAny(x, f, kind);
                Object tuple = tuple(x);
                x.encode();
                x.take(0);
                due("decode()", x.decode(), true);
                due("the tuple, with another value in field " + f, tuple(x), tuple);
            }
        }
    }

    private static void longestKeyIsRead() {
        KeyCodec x = sealedWith(TEXT, OPTIONAL, TEXT, OPTIONAL, TEXT, OPTIONAL, TEXT, OPTIONAL, TEXT, OPTIONAL);
        for (int f = 0; f < 5; f++) {
            putText(x, f, repeated(0, 10));
        }
        Object tuple = tuple(x);
        due("encode()", x.encode(), 115);
        for (int f = 0; f < 5; f++) {
            x.absent(f);
        }
        due("decode()", x.decode(), true);
        due("the tuple", tuple(x), tuple);
        x.load(1, 0);
        due("decode() with a byte more", answer(x, KeyCodec::decode), ARGUMENT);
    }

    private static void absentIsRead() {
        KeyCodec x = filledKinds();
        loadRow(x, 0, 0, 0, 0);
        due("decode()", x.decode(), true);
        due("the tuple", tuple(x), "[[1, 0, 0], [1, 0, 0], [1, 0, 0], [1, 0, 0]]");
        loadRow(x, 1, 128, 0, 1, 9, 0, 1, 0);
        due("decode()", x.decode(), true);
        due("the tuple", tuple(x), "[[0, 0, 0], [1, 0, 0], [0, 1, 0, 9], [1, 0, 0]]");
    }

    private static void onlyLoadedTupleChanges() {
        KeyCodec x = filledKinds();
        loadRow(x, 0, 0, 0, 0);
        String before = shownBesideTuple(x);
        x.decode();
        due("what stands beside the tuple", shownBesideTuple(x), before);
        x.take(1);
        due("what is kept", tuple(x), "[[0, 77, 0], [0, -88, 3], [0, 2, 0, 200, 0], [0, 99, -5]]");
    }

    private static void decodeWhileOpen() {
        KeyCodec x = open(INT, 0);
        loadRow(x, 129, 7);
        dueStaying(x, "decode() of a key", STATE, KeyCodec::decode);
        x.seal();
        due("decode() behind seal()", answer(x, KeyCodec::decode), true);
        due("what is read", value(x, 0), "[0, 7, 0]");
        x.clear();
        x.field(INT, 0);
        x.load(1, 128);
        dueStaying(x, "decode() behind clear()", STATE, KeyCodec::decode);
    }

    private static void stateBeforeArgument() {
        dueStaying(new KeyCodec(), "decode() without fields and row", STATE, KeyCodec::decode);
        KeyCodec x = open(INT, 0);
        dueStaying(x, "decode() of the empty row", STATE, KeyCodec::decode);
        loadRow(x, 255, 255);
        dueStaying(x, "decode() of no key", STATE, KeyCodec::decode);
    }

    private static void emptyAndFullRows() {
        for (int kind = 0; kind <= 3; kind++) {
            for (int flags = 0; flags <= 7; flags++) {
                dueNoKey(kind, flags);
                dueNoKey(kind, flags, repeated(0, 120));
                dueNoKey(kind, flags, repeated(1, 120));
                dueNoKey(kind, flags, repeated(255, 120));
            }
        }
    }

    /** Asks for many rows of one schema, with a new object now and then: each is good for 512 calls. */
    private static final class Asker {
        private static final int MOST_ROWS = 150;

        private final int kind;
        private final int flags;
        private KeyCodec x = null;
        private int rows = 0;

        Asker(int kind, int flags) {
            this.kind = kind;
            this.flags = flags;
        }

        void due(int n, long bytes, boolean isKey) {
            if (rows % MOST_ROWS == 0) {
                x = sealedWith(kind, flags);
            }
            rows++;
            x.clearKey();
            x.load(n, bytes);
            String what = "decode() of " + n + " bytes, " + bytes + ", kind " + kind + ", flags " + flags;
            Sentences.due(what, answer(x, KeyCodec::decode), isKey ? true : ARGUMENT);
        }
    }

    private static void addKey(KeyCodec x, Set<List<Integer>> keys) {
        if (x.encode() <= 2) {
            keys.add(keyRow(x));
        }
    }

    /** All keys of one or two bytes: no others but those of these values can be that short. */
    private static Set<List<Integer>> shortKeys(int kind, int flags) {
        Set<List<Integer>> keys = new HashSet<>();
        for (int number = -257; number <= 256; number++) {
            KeyCodec x = sealedWith(kind, flags);
            x.put(0, kind == TEXT ? 0 : number, 0);
            addKey(x, keys);
            if (kind == DECIMAL && x.put(0, 0, number)) {
                addKey(x, keys);
            }
            if (x.absent(0)) {
                addKey(x, keys);
            }
        }
        return keys;
    }

    private static void everyRowOfTwoBytes() {
        for (int kind = 0; kind <= 3; kind++) {
            for (int flags : bytes(0, DOWN, OPTIONAL, OPTIONAL | LAST | DOWN)) {
                Set<List<Integer>> keys = shortKeys(kind, flags);
                Asker asker = new Asker(kind, flags);
                for (int first = 0; first <= 255; first++) {
                    asker.due(1, first, keys.contains(row(first)));
                    for (int second = 0; second <= 255; second++) {
                        asker.due(2, 256 * first + second, keys.contains(row(first, second)));
                    }
                }
            }
        }
    }

    private static void everyOffset() {
        Asker up = new Asker(INSTANT, 0);
        Asker down = new Asker(INSTANT, DOWN);
        for (int tail = 0; tail <= 65535; tail++) {
            boolean isKey = tail >= 1000 - 900 && tail <= 1000 + 900;
            up.due(3, 128 * 65536 + tail, isKey);
            down.due(3, 127 * 65536 + tail, isKey);
        }
    }

    private static void shorterAndLongerRows() {
        int[][] keys = {{1, 130, 1, 44, 1, 3, 65, 2, 6, 0, 1, 97, 0, 255, 98, 0, 1, 1, 126, 254, 1, 3, 232},
            {0, 1, 2, 1, 0, 1, 1, 128, 9, 7, 108}, {1, 127, 0, 0, 0}, {0, 0, 0, 0}};
        for (int[] key : keys) {
            for (int size = 0; size < key.length; size++) {
                dueNoKeyOfKinds(Arrays.copyOf(key, size));
            }
            for (int more : bytes(0, 1, 255)) {
                dueNoKeyOfKinds(joined(key, bytes(more)));
            }
            KeyCodec x = filledKinds();
            loadRow(x, key);
            due("decode() of " + row(key), answer(x, KeyCodec::decode), true);
        }
    }

    private static void dueNoKeyOfKinds(int... bytes) {
        KeyCodec x = filledKinds();
        loadRow(x, bytes);
        dueStaying(x, "decode() of " + row(bytes), ARGUMENT, KeyCodec::decode);
    }

    private static void intMarks() {
        for (int mark = 0; mark <= 255; mark++) {
            int n = mark >= 128 ? mark - 128 : 127 - mark;
            if (n > 8) {
                dueNoKey(INT, 0, mark);
                dueNoKey(INT, 0, joined(bytes(mark), repeated(1, Math.min(n, 119))));
                dueNoKey(INSTANT, 0, joined(bytes(mark), repeated(1, Math.min(n, 117)), bytes(3, 232)));
            }
        }
        dueRead(INT, 0, "[0, 0, 0]", 128);
        dueRead(INT, 0, "[0, -1, 0]", 127);
        dueRead(INT, 0, "[0, 72340172838076673, 0]", 136, 1, 1, 1, 1, 1, 1, 1, 1);
        dueRead(INT, 0, "[0, -72340172838076674, 0]", 119, 254, 254, 254, 254, 254, 254, 254, 254);
    }

    private static void intsLongerThanNeeded() {
        for (int n = 1; n <= 8; n++) {
            int[] zeros = repeated(0, n - 1);
            int[] ones = repeated(255, n - 1);
            dueRead(INT, 0, "[0, " + (1L << 8 * (n - 1)) + ", 0]", joined(bytes(128 + n, 1), zeros));
            dueNoKey(INT, 0, joined(bytes(128 + n, 0), ones));
            dueNoKey(INT, 0, joined(bytes(128 + n, 0), zeros));
            dueRead(INT, 0, "[0, " + (-1 - (1L << 8 * (n - 1))) + ", 0]", joined(bytes(127 - n, 254), ones));
            dueNoKey(INT, 0, joined(bytes(127 - n, 255), zeros));
            dueNoKey(INT, 0, joined(bytes(127 - n, 255), ones));
        }
    }

    private static void intsBeyondLong() {
        int[] ones = repeated(255, 7);
        int[] zeros = repeated(0, 7);
        dueRead(INT, 0, "[0, " + Long.MAX_VALUE + ", 0]", joined(bytes(136, 127), ones));
        dueNoKey(INT, 0, joined(bytes(136, 128), zeros));
        dueNoKey(INT, 0, joined(bytes(136, 255), ones));
        dueRead(INT, 0, "[0, " + Long.MIN_VALUE + ", 0]", joined(bytes(119, 128), zeros));
        dueNoKey(INT, 0, joined(bytes(119, 127), ones));
        dueNoKey(INT, 0, joined(bytes(119, 0), zeros));
        dueNoKey(INT, 0, joined(bytes(137, 1), repeated(0, 8)));
        dueNoKey(INT, 0, joined(bytes(118, 254), repeated(255, 8)));
    }

    private static void textLengths() {
        dueRead(TEXT, 0, "[0, 0, 0]", 0, 1);
        dueRead(TEXT, 0, "[0, 10, 0, 1, 2, 3, 4, 5, 6, 7, 8, 9, 10]", 1, 2, 3, 4, 5, 6, 7, 8, 9, 10, 0, 1);
        dueNoKey(TEXT, 0, 1, 2, 3, 4, 5, 6, 7, 8, 9, 10, 11, 0, 1);
        dueNoKey(TEXT, 0, 1, 2, 3, 4, 5, 6, 7, 8, 9, 10, 0, 255, 0, 1);
        int[] zero = {0, 255};
        int[] ten = joined(zero, zero, zero, zero, zero, zero, zero, zero, zero, zero);
        dueRead(TEXT, 0, "[0, 10, 0, 0, 0, 0, 0, 0, 0, 0, 0, 0, 0]", joined(ten, bytes(0, 1)));
        dueNoKey(TEXT, 0, joined(ten, zero, bytes(0, 1)));
        dueNoKey(TEXT, 0, joined(ten, bytes(1, 0, 1)));
    }

    private static void zerosInTexts() {
        for (int behind = 0; behind <= 255; behind++) {
            if (behind != 1 && behind != 255) {
                dueNoKey(TEXT, 0, 97, 0, behind);
                dueNoKey(TEXT, 0, 97, 0, behind, 0, 1);
            }
        }
        dueRead(TEXT, 0, "[0, 1, 0, 97]", 97, 0, 1);
        dueRead(TEXT, 0, "[0, 2, 0, 97, 0]", 97, 0, 255, 0, 1);
        dueRead(TEXT, 0, "[0, 3, 0, 0, 255, 0]", 0, 255, 255, 0, 255, 0, 1);
        dueNoKey(TEXT, 0, 97);
        dueNoKey(TEXT, 0, 97, 0);
        dueNoKey(TEXT, 0, 97, 0, 255);
    }

    private static void decimalMarks() {
        dueRead(DECIMAL, 0, "[0, 0, 0]", 2, 0);
        dueRead(DECIMAL, 0, "[0, 1, 0]", 3, 65, 2, 0, 0);
        dueRead(DECIMAL, 0, "[0, -1, 0]", 1, 190, 253, 255, 0);
        for (int mark = 0; mark <= 255; mark++) {
            if (mark < 1 || mark > 3) {
                dueNoKey(DECIMAL, 0, mark, 0);
                dueNoKey(DECIMAL, 0, mark, 65, 2, 0, 0);
                dueNoKey(DECIMAL, 0, mark, 190, 253, 255, 0);
            }
        }
        dueNoKey(DECIMAL, 0, 1, 65, 2, 0, 0);
        dueNoKey(DECIMAL, 0, 3, 190, 253, 255, 0);
    }

    private static void decimalDigits() {
        dueRead(DECIMAL, 0, "[0, 9, 0]", 3, 65, 10, 0, 0);
        dueNoKey(DECIMAL, 0, 3, 65, 11, 0, 0);
        dueNoKey(DECIMAL, 0, 3, 65, 255, 0, 0);
        dueNoKey(DECIMAL, 0, 3, 65, 0, 0);
        dueRead(DECIMAL, 0, "[0, 101, 0]", 3, 67, 2, 1, 2, 0, 0);
        dueNoKey(DECIMAL, 0, 3, 67, 1, 2, 2, 0, 0);
        dueNoKey(DECIMAL, 0, 3, 67, 2, 2, 1, 0, 0);
        dueNoKey(DECIMAL, 0, 3, 65, 1, 0, 0);
        dueNoKey(DECIMAL, 0, 3, 65);
        dueNoKey(DECIMAL, 0, 3, 65, 2);
        dueNoKey(DECIMAL, 0, 3, 65, 2, 0);
        dueRead(DECIMAL, 0, "[0, -9, 0]", 1, 190, 245, 255, 0);
        dueNoKey(DECIMAL, 0, 1, 190, 244, 255, 0);
        dueNoKey(DECIMAL, 0, 1, 190, 255, 0);
        dueNoKey(DECIMAL, 0, 1, 189, 254, 253, 255, 0);
        dueNoKey(DECIMAL, 0, 1, 189, 253, 254, 255, 0);
    }

    private static void decimalLimit() {
        int[] nines = repeated(10, 15);
        dueRead(DECIMAL, 0, "[0, " + LIMIT + ", 0]", 3, 80, 2, 0, 0);
        dueNoKey(DECIMAL, 0, 3, 80, 3, 0, 0);
        dueNoKey(DECIMAL, 0, 3, 81, 2, 0, 0);
        dueRead(DECIMAL, 0, "[0, " + (LIMIT - 1) + ", 0]", joined(bytes(3, 79), nines, bytes(0, 0)));
        dueRead(DECIMAL, 0, "[0, " + (LIMIT - 1) + ", 9]", joined(bytes(3, 70), nines, bytes(0, 9)));
        dueNoKey(DECIMAL, 0, joined(bytes(3, 80), nines, bytes(0, 0)));
        dueNoKey(DECIMAL, 0, joined(bytes(3, 80), nines, bytes(10, 0, 0)));
        dueNoKey(DECIMAL, 0, joined(bytes(3, 71), nines, bytes(10, 0, 9)));
        dueNoKey(DECIMAL, 0, joined(bytes(3, 80, 2), repeated(1, 14), bytes(2, 0, 0)));
        dueNoKey(DECIMAL, 0, joined(bytes(3, 71, 2), repeated(1, 30), bytes(2, 0, 9)));
        dueNoKey(DECIMAL, 0, joined(bytes(3, 73), repeated(10, 100), bytes(0, 9)));
        dueRead(DECIMAL, 0, "[0, " + -LIMIT + ", 0]", 1, 175, 253, 255, 0);
        dueNoKey(DECIMAL, 0, 1, 175, 252, 255, 0);
        dueNoKey(DECIMAL, 0, 1, 174, 253, 255, 0);
        dueNoKey(DECIMAL, 0, joined(bytes(1, 175, 253), repeated(254, 14), bytes(253, 255, 0)));
    }

    private static void decimalScales() {
        dueRead(DECIMAL, 0, "[0, 0, 9]", 2, 9);
        dueNoKey(DECIMAL, 0, 2, 10);
        dueNoKey(DECIMAL, 0, 2, 255);
        dueNoKey(DECIMAL, 0, 2);
        dueRead(DECIMAL, 0, "[0, 15, 1]", 3, 65, 2, 6, 0, 1);
        dueNoKey(DECIMAL, 0, 3, 65, 2, 6, 0, 0);
        dueRead(DECIMAL, 0, "[0, 1500000000, 9]", 3, 65, 2, 6, 0, 9);
        dueNoKey(DECIMAL, 0, 3, 65, 2, 6, 0, 10);
        dueNoKey(DECIMAL, 0, 3, 65, 2, 6, 0, 255);
        dueRead(DECIMAL, 0, "[0, " + LIMIT + ", 8]", 3, 72, 2, 0, 8);
        dueNoKey(DECIMAL, 0, 3, 72, 2, 0, 9);
        dueRead(DECIMAL, 0, "[0, " + LIMIT + ", 9]", 3, 71, 2, 0, 9);
        dueNoKey(DECIMAL, 0, 3, 80, 2, 0, 1);
        dueNoKey(DECIMAL, 0, 1, 183, 253, 255, 9);
    }

    private static void decimalExponents() {
        dueRead(DECIMAL, 0, "[0, 1, 9]", 3, 56, 2, 0, 9);
        dueNoKey(DECIMAL, 0, 3, 56, 2, 0, 8);
        for (int exponent = 0; exponent <= 255; exponent++) {
            if (exponent < 56 || exponent > 80) {
                dueNoKey(DECIMAL, 0, 3, exponent, 2, 0, 0);
                dueNoKey(DECIMAL, 0, 3, exponent, 2, 0, 9);
                dueNoKey(DECIMAL, 0, 1, 255 - exponent, 253, 255, 9);
            }
        }
        dueRead(DECIMAL, 0, "[0, -1, 9]", 1, 199, 253, 255, 9);
        dueNoKey(DECIMAL, 0, 1, 199, 253, 255, 8);
    }

    private static void seconds() {
        dueRead(INSTANT, 0, "[0, " + FAR + ", 0]", 134, 1, 0, 0, 0, 0, 0, 3, 232);
        dueNoKey(INSTANT, 0, 134, 1, 0, 0, 0, 0, 1, 3, 232);
        dueNoKey(INSTANT, 0, 136, 127, 255, 255, 255, 255, 255, 255, 255, 3, 232);
        dueRead(INSTANT, 0, "[0, " + -FAR + ", 0]", 122, 0, 0, 0, 0, 0, 3, 232);
        dueNoKey(INSTANT, 0, 121, 254, 255, 255, 255, 255, 255, 3, 232);
        dueNoKey(INSTANT, 0, 119, 128, 0, 0, 0, 0, 0, 0, 0, 3, 232);
        dueNoKey(INSTANT, 0, 129, 0, 3, 232);
        dueNoKey(INSTANT, 0, 126, 255, 3, 232);
    }

    private static void offsets() {
        dueRead(INSTANT, 0, "[0, 0, -900]", 128, 0, 100);
        dueNoKey(INSTANT, 0, 128, 0, 99);
        dueNoKey(INSTANT, 0, 128, 0, 0);
        dueRead(INSTANT, 0, "[0, 0, 900]", 128, 7, 108);
        dueNoKey(INSTANT, 0, 128, 7, 109);
        dueNoKey(INSTANT, 0, 128, 8, 0);
        dueNoKey(INSTANT, 0, 128, 255, 255);
        dueNoKey(INSTANT, 0, 128);
        dueNoKey(INSTANT, 0, 128, 3);
        dueRead(INSTANT, 0, "[0, 0, -745]", 128, 0, 255);
        dueRead(INSTANT, 0, "[0, 0, -744]", 128, 1, 0);
    }

    private static void optionalMarks() {
        for (int down : bytes(0, DOWN)) {
            int zero = down == 0 ? 128 : 127;
            for (int mark = 0; mark <= 255; mark++) {
                if (mark > 1) {
                    dueNoKey(INT, OPTIONAL | down, mark);
                    dueNoKey(INT, OPTIONAL | down, mark, zero);
                }
                if (mark < 1 || mark > 2) {
                    dueNoKey(INT, OPTIONAL | LAST | down, mark);
                    dueNoKey(INT, OPTIONAL | LAST | down, mark, zero);
                }
            }
            dueRead(INT, OPTIONAL | down, "[1, 0, 0]", 0);
            dueRead(INT, OPTIONAL | down, "[0, 0, 0]", 1, zero);
            dueNoKey(INT, OPTIONAL | down, 0, zero);
            dueNoKey(INT, OPTIONAL | down, 1);
            dueRead(INT, OPTIONAL | LAST | down, "[1, 0, 0]", 2);
            dueRead(INT, OPTIONAL | LAST | down, "[0, 0, 0]", 1, zero);
            dueNoKey(INT, OPTIONAL | LAST | down, 2, zero);
            dueRead(INT, LAST | down, "[0, 0, 0]", zero);
            dueNoKey(INT, LAST | down, 1, zero);
        }
    }

    private static void tailOfAbsent() {
        dueRead(DECIMAL, OPTIONAL, "[1, 0, 0]", 0);
        dueNoKey(DECIMAL, OPTIONAL, 0, 0);
        dueNoKey(DECIMAL, OPTIONAL | LAST, 2, 9);
        dueRead(INSTANT, OPTIONAL | LAST, "[1, 0, 0]", 2);
        dueNoKey(INSTANT, OPTIONAL | LAST, 2, 3, 232);
        dueNoKey(INSTANT, OPTIONAL, 0, 0, 100);
    }

    private static void turnedRows() {
        dueRead(INT, DOWN, "[0, 300, 0]", 125, 254, 211);
        dueNoKey(INT, DOWN, 126, 255);
        dueNoKey(INT, DOWN, 129, 0);
        dueRead(TEXT, DOWN, "[0, 2, 0, 97, 0]", 158, 255, 0, 255, 254);
        dueNoKey(TEXT, DOWN, 97, 0, 1);
        dueNoKey(TEXT, DOWN, 158, 255, 253);
        dueRead(DECIMAL, DOWN, "[0, 0, 9]", 253, 9);
        dueNoKey(DECIMAL, DOWN, 253, 246);
        dueNoKey(DECIMAL, DOWN, 2, 9);
        dueRead(DECIMAL, DOWN, "[0, -1050, 2]", 254, 66, 2, 1, 6, 0, 2);
        dueRead(DECIMAL, DOWN, "[0, " + LIMIT + ", 0]", 252, 175, 253, 255, 0);
        dueNoKey(DECIMAL, DOWN, 252, 175, 252, 255, 0);
        dueRead(INSTANT, DOWN, "[0, " + FAR + ", 900]", 121, 254, 255, 255, 255, 255, 255, 7, 108);
        dueNoKey(INSTANT, DOWN, 121, 254, 255, 255, 255, 255, 254, 7, 108);
        dueNoKey(INSTANT, DOWN, 127, 252, 23);
    }

    private static void refusedLeavesTuple() {
        int[][] rows = {{}, {1, 129, 9, 1, 3, 65, 2, 0, 1, 5, 0, 1, 1, 129, 9, 0, 7, 109},
            {1, 129, 9, 1, 3, 65, 2, 0, 1, 5, 0, 1, 1, 129, 9, 10, 3, 232}, {1, 129, 9, 1, 3, 65, 2, 0, 1, 5, 0, 2},
            {0, 0, 0, 3}, {0, 0, 0, 0, 0}, {1, 129, 9, 9}};
        for (int[] bytes : rows) {
            KeyCodec x = filledKinds();
            loadRow(x, bytes);
            due("decode() of " + row(bytes), answer(x, KeyCodec::decode), ARGUMENT);
            due("the tuple", tuple(x), "[[0, 77, 0], [0, -88, 3], [0, 2, 0, 200, 0], [0, 99, -5]]");
            x.absent(1);
            due("decode() again", answer(x, KeyCodec::decode), ARGUMENT);
            due("the tuple", tuple(x), "[[0, 77, 0], [1, 0, 0], [0, 2, 0, 200, 0], [0, 99, -5]]");
        }
    }
}
