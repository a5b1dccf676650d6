import java.util.Arrays;

/** Promises 9 to 12: encode, load, clearKey, key. */
final class KeyRowSentences extends Sentences {
    private KeyRowSentences() {
    }

    static void all() {
        encode();
        load();
        clearKey();
        key();
    }

    private static void encode() {
        section("Promise 9");
        sentence("The key row becomes the loaded tuple's key: how many bytes.", KeyRowSentences::encodeReplacesRow);
        sentence("The key row becomes the loaded tuple's key: how many bytes.", KeyRowSentences::encodeShortest);
        sentence("The key row becomes the loaded tuple's key: how many bytes.", KeyRowSentences::encodeLongest);
        sentence("IllegalStateException if the schema is open.", KeyRowSentences::encodeWhileOpen);
    }

    private static void encodeReplacesRow() {
        KeyCodec x = sealedWith(INT, 0);
        loadRow(x, 1, 2, 3, 4);
        dueKey(x, 128);
        x.put(0, 300, 0);
        due("put leaves the key row", keyRow(x), row(128));
        String before = value(x, 0) + shownBesideRows(x);
        dueKey(x, 130, 1, 44);
        due("what else stands", value(x, 0) + shownBesideRows(x), before);
        x.put(0, -1, 0);
        dueKey(x, 127);
        for (int i = 0; i < 15; i++) {
            x.load(8, i);
        }
        dueKey(x, 127);
    }

    private static void encodeShortest() {
        dueKey(sealedWith(INT, 0), 128);
        KeyCodec x = sealedWith(TEXT, OPTIONAL | LAST);
        x.absent(0);
        dueKey(x, 2);
    }

    private static void encodeLongest() {
        KeyCodec x = sealedWith(TEXT, OPTIONAL, TEXT, OPTIONAL | LAST, TEXT, OPTIONAL, TEXT, OPTIONAL, TEXT, OPTIONAL);
        for (int f = 0; f < 5; f++) {
            putText(x, f, repeated(0, 10));
        }
        due("encode()", x.encode(), 115);
        int[] field = joined(bytes(1), bytes(0, 255, 0, 255, 0, 255, 0, 255, 0, 255),
                bytes(0, 255, 0, 255, 0, 255, 0, 255, 0, 255), bytes(0, 1));
        due("the key", keyRow(x), row(joined(field, field, field, field, field)));
        due("key(114)", x.key(114), 1);
        due("key(115)", x.key(115), NONE);
    }

    private static void encodeWhileOpen() {
        KeyCodec x = openKinds();
        x.load(2, 0x0708);
        dueStaying(x, "encode()", STATE, KeyCodec::encode);
        x.seal();
        due("encode() behind seal()", answer(x, KeyCodec::encode), 12);
        x.clear();
        dueStaying(x, "encode() behind clear()", STATE, KeyCodec::encode);
    }

    private static void load() {
        section("Promise 10");
        sentence("Appends the n lowest bytes of bytes to the key row, the highest first: true",
                KeyRowSentences::loadTakesLowest);
        sentence("Appends the n lowest bytes of bytes to the key row, the highest first: true",
                KeyRowSentences::loadAppends);
        sentence("Appends the n lowest bytes of bytes to the key row, the highest first: true",
                KeyRowSentences::loadWhileOpen);
        sentence("false if n is not 1 .. 8", KeyRowSentences::loadCountHasEnds);
        sentence("or they have no room.", KeyRowSentences::loadUpToTheRoom);
        sentence("or they have no room.", KeyRowSentences::loadBeyondTheRoom);
    }

    private static void loadTakesLowest() {
        long all = 0xf1f2f3f4f5f6f7f8L;
        int[] highestFirst = {0xf1, 0xf2, 0xf3, 0xf4, 0xf5, 0xf6, 0xf7, 0xf8};
        for (int n = 1; n <= 8; n++) {
            KeyCodec x = new KeyCodec();
            due("load(" + n + ", ..)", x.load(n, all), true);
            due("the key row", keyRow(x), row(Arrays.copyOfRange(highestFirst, 8 - n, 8)));
        }
        KeyCodec x = new KeyCodec();
        x.load(8, Long.MIN_VALUE);
        x.load(2, -1);
        x.load(1, 256);
        due("the key row", keyRow(x), row(128, 0, 0, 0, 0, 0, 0, 0, 255, 255, 0));
    }

    private static void loadAppends() {
        KeyCodec x = sealedWith(INT, 0);
        x.encode();
        String before = shownBesideRows(x);
        due("load(1, 5)", x.load(1, 5), true);
        due("load(2, 0x0607)", x.load(2, 0x0607), true);
        due("the key row", keyRow(x), row(128, 5, 6, 7));
        due("the loaded tuple stays", tuple(x), "[[0, 0, 0]]");
        due("what else stands", shownBesideRows(x), before);
    }

    private static void loadWhileOpen() {
        KeyCodec x = new KeyCodec();
        due("load(1, 5)", x.load(1, 5), true);
        x.field(INT, 0);
        due("load(1, 6)", x.load(1, 6), true);
        x.seal();
        due("the key row", keyRow(x), row(5, 6));
    }

    private static void loadCountHasEnds() {
        KeyCodec x = filledKinds();
        due("load(1, 1)", x.load(1, 1), true);
        due("load(8, 1)", x.load(8, 1), true);
        for (int n : bytes(0, -1, 9, 64, LEAST, MOST)) {
            dueStaying(filledKinds(), "load(" + n + ", 1)", false, y -> y.load(n, 1));
            dueStaying(new KeyCodec(), "load(" + n + ", 1)", false, y -> y.load(n, 1));
        }
    }

    private static KeyCodec withRow(int size) {
        KeyCodec x = new KeyCodec();
        for (int i = 0; i < size; i++) {
            x.load(1, i);
        }
        return x;
    }

    private static void loadUpToTheRoom() {
        for (int n = 1; n <= 8; n++) {
            KeyCodec x = withRow(120 - n);
            due("load(" + n + ", ..) behind " + (120 - n), x.load(n, 0x0102030405060708L), true);
            due("key(-1)", x.key(-1), 120);
            due("the last", x.key(119), 8);
            due("the first of them", x.key(120 - n), 9 - n);
            due("the one before", x.key(119 - n), 119 - n);
        }
    }

    private static void loadBeyondTheRoom() {
        for (int n = 1; n <= 8; n++) {
            int bytes = n;
            dueStaying(withRow(121 - n), "load(" + n + ", ..) behind " + (121 - n), false, x -> x.load(bytes, 1));
            dueStaying(withRow(120), "load(" + n + ", ..) behind 120", false, x -> x.load(bytes, 1));
        }
        KeyCodec x = withRow(119);
        due("load(2, 1) behind 119", x.load(2, 1), false);
        due("load(1, 9) behind it", x.load(1, 9), true);
        due("the last", x.key(119), 9);
    }

    private static void clearKey() {
        section("Promise 11");
        sentence("The key row is empty.", KeyRowSentences::clearKeyEmpties);
        sentence("The key row is empty.", KeyRowSentences::clearKeyLeavesTheRest);
    }

    private static void clearKeyEmpties() {
        KeyCodec x = withRow(120);
        x.clearKey();
        due("key(-1)", x.key(-1), 0);
        due("key(0)", x.key(0), NONE);
        due("key(119)", x.key(119), NONE);
        x.clearKey();
        due("key(-1), cleared twice", x.key(-1), 0);
        for (int i = 0; i < 15; i++) {
            due("load(8, ..)", x.load(8, i), true);
        }
        due("key(-1)", x.key(-1), 120);
    }

    private static void clearKeyLeavesTheRest() {
        KeyCodec x = filledKinds();
        String before = shownBesideRows(x);
        x.clearKey();
        due("the tuple", tuple(x), "[[0, 77, 0], [0, -88, 3], [0, 2, 0, 200, 0], [0, 99, -5]]");
        due("what else stands", shownBesideRows(x), before);
        due("it is sealed", answer(x, KeyCodec::keep), 2);
    }

    private static void key() {
        section("Promise 12");
        sentence("Byte k of the key row", KeyRowSentences::keyGivesBytes);
        sentence("NONE if there is none.", KeyRowSentences::keyWithoutByte);
        sentence("How many it has if k is -1.", KeyRowSentences::keyCounts);
    }

    private static void keyGivesBytes() {
        KeyCodec x = new KeyCodec();
        for (int i = 0; i < 120; i++) {
            x.load(1, 255 - 2 * i);
        }
        for (int i = 0; i < 120; i++) {
            due("key(" + i + ")", x.key(i), 255 - 2 * i & 255);
        }
    }

    private static void keyWithoutByte() {
        KeyCodec x = new KeyCodec();
        dueStaying(x, "key(0) of the empty row", NONE, y -> y.key(0));
        x.load(2, 0xff00);
        due("key(0)", x.key(0), 255);
        due("key(1)", x.key(1), 0);
        for (int k : bytes(2, 3, 119, 120, 121, -2, -3, LEAST, MOST)) {
            due("key(" + k + ") of two", x.key(k), NONE);
            due("key(" + k + ") of none", new KeyCodec().key(k), NONE);
        }
        KeyCodec full = withRow(120);
        due("key(119) of 120", full.key(119), 119);
        due("key(120) of 120", full.key(120), NONE);
        due("key(-2) of 120", full.key(-2), NONE);
    }

    private static void keyCounts() {
        KeyCodec x = new KeyCodec();
        for (int size = 0; size < 120; size++) {
            due("key(-1)", x.key(-1), size);
            x.load(1, 7);
        }
        due("key(-1)", x.key(-1), 120);
    }
}
