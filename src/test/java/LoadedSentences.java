/** Promises 5 to 8: put, text, absent, get. */
final class LoadedSentences extends Sentences {
    private static final int[] NO_FIELDS = {-1, 4, 5, LEAST, MOST};

    private LoadedSentences() {
    }

    static void all() {
        put();
        text();
        absent();
        get();
    }

    private static void put() {
        section("Promise 5");
        sentence("The loaded tuple's field gets a value, not ABSENT", LoadedSentences::putEndsAbsence);
        sentence("The loaded tuple's field gets a value, not ABSENT", LoadedSentences::putLeavesOtherFields);
        sentence("The loaded tuple's field gets a value, not ABSENT", LoadedSentences::putLeavesTheRest);
        sentence("an INT (form 0)", LoadedSentences::putInt);
        sentence("digits and the scale", LoadedSentences::putDigits);
        sentence("digits and the scale", LoadedSentences::putScale);
        sentence("seconds and the offset", LoadedSentences::putSeconds);
        sentence("seconds and the offset", LoadedSentences::putOffset);
        sentence("a TEXT becomes the empty one (value and form 0): true.", LoadedSentences::putMakesTextEmpty);
        sentence("False if there is no such field", LoadedSentences::putWithoutField);
        sentence("the schema is open", LoadedSentences::putWhileOpen);
        sentence("or it is no value of it.", LoadedSentences::refusedPutLeavesAbsent);
    }

    private static void putEndsAbsence() {
        KeyCodec x = filledKinds();
        for (int f = 0; f < 4; f++) {
            x.absent(f);
            due("put of field " + f, x.put(f, 0, 0), true);
            due("field " + f, value(x, f), "[0, 0, 0]");
        }
    }

    private static void putLeavesOtherFields() {
        KeyCodec x = filledKinds();
        x.put(0, 1, 0);
        due("behind put of 0", tuple(x), "[[0, 1, 0], [0, -88, 3], [0, 2, 0, 200, 0], [0, 99, -5]]");
        x.put(1, 2, 4);
        due("behind put of 1", tuple(x), "[[0, 1, 0], [0, 2, 4], [0, 2, 0, 200, 0], [0, 99, -5]]");
        x.put(2, 0, 0);
        due("behind put of 2", tuple(x), "[[0, 1, 0], [0, 2, 4], [0, 0, 0], [0, 99, -5]]");
        x.put(3, 6, 7);
        due("behind put of 3", tuple(x), "[[0, 1, 0], [0, 2, 4], [0, 0, 0], [0, 6, 7]]");
        due("what is kept", x.take(1), true);
        due("what is kept", tuple(x), "[[0, 77, 0], [0, -88, 3], [0, 2, 0, 200, 0], [0, 99, -5]]");
    }

    private static void putLeavesTheRest() {
        KeyCodec x = filledKinds();
        String before = shownBesideTuple(x);
        for (int f = 0; f < 4; f++) {
            due("put of field " + f, x.put(f, 0, 0), true);
            due("what stands beside the tuple", shownBesideTuple(x), before);
        }
    }

    private static void putInt() {
        for (long v : new long[] {0, 1, -1, Long.MIN_VALUE, Long.MAX_VALUE, 1L << 40, -(1L << 50), LIMIT * 9}) {
            dueTaken(0, v, 0);
        }
        for (int form : bytes(1, -1, 9, LEAST, MOST)) {
            dueNoValue(0, 3, form);
            dueNoValue(0, 0, form);
        }
    }

    private static void putDigits() {
        for (int scale : bytes(0, 9)) {
            dueTaken(1, LIMIT, scale);
            dueTaken(1, -LIMIT, scale);
            dueTaken(1, LIMIT - 1, scale);
            dueNoValue(1, LIMIT + 1, scale);
            dueNoValue(1, -LIMIT - 1, scale);
            dueNoValue(1, Long.MAX_VALUE, scale);
            dueNoValue(1, Long.MIN_VALUE, scale);
        }
    }

    private static void putScale() {
        for (long digits : new long[] {0, 5, LIMIT, -LIMIT}) {
            dueTaken(1, digits, 0);
            dueTaken(1, digits, 9);
            for (int scale : bytes(-1, 10, 256, LEAST, MOST)) {
                dueNoValue(1, digits, scale);
            }
        }
    }

    private static void putSeconds() {
        for (int offset : bytes(-900, 0, 900)) {
            dueTaken(3, FAR, offset);
            dueTaken(3, -FAR, offset);
            dueTaken(3, FAR - 1, offset);
            dueNoValue(3, FAR + 1, offset);
            dueNoValue(3, -FAR - 1, offset);
            dueNoValue(3, Long.MAX_VALUE, offset);
            dueNoValue(3, Long.MIN_VALUE, offset);
        }
    }

    private static void putOffset() {
        for (long seconds : new long[] {0, 5, FAR, -FAR}) {
            dueTaken(3, seconds, 900);
            dueTaken(3, seconds, -900);
            for (int offset : bytes(901, -901, 65536, LEAST, MOST)) {
                dueNoValue(3, seconds, offset);
            }
        }
    }

    private static void putMakesTextEmpty() {
        KeyCodec x = filledKinds();
        putText(x, 2, repeated(7, 10));
        due("ten", x.get(2, 1), 10);
        due("put(2, 0, 0)", x.put(2, 0, 0), true);
        due("the text", value(x, 2), "[0, 0, 0]");
        due("text(2, 8)", x.text(2, 8), true);
        due("the text", value(x, 2), "[0, 1, 0, 8]");
        for (long v : new long[] {1, -1, 1L << 32, Long.MIN_VALUE, Long.MAX_VALUE}) {
            dueNoValue(2, v, 0);
        }
        for (int form : bytes(1, -1, LEAST, MOST)) {
            dueNoValue(2, 0, form);
        }
    }

    private static void dueTaken(int f, long v, int form) {
        KeyCodec x = filledKinds();
        due("put(" + f + ", " + v + ", " + form + ")", x.put(f, v, form), true);
        due("what was put", value(x, f), "[0, " + v + ", " + form + "]");
    }

    private static void dueNoValue(int f, long v, int form) {
        dueStaying(filledKinds(), "put(" + f + ", " + v + ", " + form + ")", false, x -> x.put(f, v, form));
    }

    private static void putWithoutField() {
        due("the last one", filledKinds().put(3, 0, 0), true);
        for (int f : NO_FIELDS) {
            dueStaying(filledKinds(), "put of field " + f, false, x -> x.put(f, 0, 0));
        }
        dueStaying(new KeyCodec(), "put without fields", false, x -> x.put(0, 0, 0));
    }

    private static void putWhileOpen() {
        for (int f = 0; f < 4; f++) {
            int field = f;
            dueStaying(openKinds(), "put of field " + f, false, x -> x.put(field, 0, 0));
        }
        KeyCodec x = openKinds();
        x.put(0, 5, 0);
        x.seal();
        due("the INT behind seal()", x.get(0, 1), 0);
    }

    private static void refusedPutLeavesAbsent() {
        long[][] noValues = {{3, 1}, {LIMIT + 1, 0}, {1, 0}, {0, 901}};
        for (int f = 0; f < 4; f++) {
            KeyCodec x = filledKinds();
            int field = f;
            x.absent(f);
            dueStaying(x, "a wrong put of field " + f, false,
                    y -> y.put(field, noValues[field][0], (int) noValues[field][1]));
            due("it is ABSENT", x.get(f, 0), 1);
        }
    }

    private static void text() {
        section("Promise 6");
        sentence("The lowest eight bits of b go behind the loaded tuple's TEXT", LoadedSentences::textTakesEightBits);
        sentence("The lowest eight bits of b go behind the loaded tuple's TEXT", LoadedSentences::textGoesBehind);
        sentence("which is not ABSENT then (if it was, it is just these): true.", LoadedSentences::textEndsAbsence);
        sentence("False if it has 10", LoadedSentences::eleventhByte);
        sentence("is no TEXT", LoadedSentences::textOfAnotherKind);
        sentence("is no TEXT", LoadedSentences::textWithoutField);
        sentence("or the schema is open.", LoadedSentences::textWhileOpen);
    }

    private static void textTakesEightBits() {
        int[][] pairs = {{0, 0}, {1, 1}, {127, 127}, {128, 128}, {255, 255}, {256, 0}, {257, 1}, {-1, 255},
            {-256, 0}, {-255, 1}, {LEAST, 0}, {MOST, 255}};
        for (int[] pair : pairs) {
            KeyCodec x = sealedWith(TEXT, 0);
            due("text(0, " + pair[0] + ")", x.text(0, pair[0]), true);
            due("the text", value(x, 0), row(0, 1, 0, pair[1]));
        }
    }

    private static void textGoesBehind() {
        KeyCodec x = filledKinds();
        String before = shownBesideTuple(x);
        due("text(2, 5)", x.text(2, 5), true);
        due("text(2, 6)", x.text(2, 6), true);
        due("what stands beside the tuple", shownBesideTuple(x), before);
        due("the tuple", tuple(x), "[[0, 77, 0], [0, -88, 3], [0, 4, 0, 200, 0, 5, 6], [0, 99, -5]]");
        x.take(1);
        due("what is kept", value(x, 2), "[0, 2, 0, 200, 0]");
    }

    private static void textEndsAbsence() {
        KeyCodec x = filledKinds();
        x.absent(2);
        due("text(2, 65)", x.text(2, 65), true);
        due("just this", value(x, 2), "[0, 1, 0, 65]");
        due("text(2, 66)", x.text(2, 66), true);
        due("just these", value(x, 2), "[0, 2, 0, 65, 66]");
        putText(x, 2, repeated(7, 10));
        x.absent(2);
        due("text(2, 67), ABSENT with ten before", x.text(2, 67), true);
        due("just this", value(x, 2), "[0, 1, 0, 67]");
    }

    private static void eleventhByte() {
        KeyCodec x = filledKinds();
        putText(x, 2, 1, 2, 3, 4, 5, 6, 7, 8, 9);
        due("a tenth", x.text(2, 10), true);
        dueStaying(x, "an eleventh", false, y -> y.text(2, 11));
        due("the text", value(x, 2), "[0, 10, 0, 1, 2, 3, 4, 5, 6, 7, 8, 9, 10]");
        dueStaying(x, "an eleventh, 0", false, y -> y.text(2, 0));
    }

    private static void textOfAnotherKind() {
        for (int f : bytes(0, 1, 3)) {
            dueStaying(filledKinds(), "text of field " + f, false, x -> x.text(f, 65));
            KeyCodec x = filledKinds();
            x.absent(f);
            dueStaying(x, "text of field " + f + ", ABSENT", false, y -> y.text(f, 65));
        }
    }

    private static void textWithoutField() {
        for (int f : NO_FIELDS) {
            dueStaying(filledKinds(), "text of field " + f, false, x -> x.text(f, 65));
        }
        dueStaying(new KeyCodec(), "text without fields", false, x -> x.text(0, 65));
        KeyCodec five = sealedWith(INT, 0, INT, 0, INT, 0, INT, 0, TEXT, 0);
        due("text of the fifth", five.text(4, 65), true);
        dueStaying(five, "text of a sixth", false, x -> x.text(5, 65));
    }

    private static void textWhileOpen() {
        KeyCodec x = openKinds();
        dueStaying(x, "text(2, 65)", false, y -> y.text(2, 65));
        x.seal();
        due("the text behind seal()", value(x, 2), "[0, 0, 0]");
        due("text(2, 65) behind seal()", x.text(2, 65), true);
    }

    private static void absent() {
        section("Promise 7");
        sentence("The loaded tuple's field becomes ABSENT: true", LoadedSentences::eachKindBecomesAbsent);
        sentence("The loaded tuple's field becomes ABSENT: true", LoadedSentences::absentLeavesTheRest);
        sentence("false if it is not optional", LoadedSentences::absentWithoutOptional);
        sentence("there is none", LoadedSentences::absentWithoutField);
        sentence("or the schema is open.", LoadedSentences::absentWhileOpen);
    }

    private static void eachKindBecomesAbsent() {
        for (int flags : bytes(OPTIONAL, OPTIONAL | DOWN, OPTIONAL | LAST, OPTIONAL | LAST | DOWN)) {
            for (int kind = 0; kind <= 3; kind++) {
                KeyCodec x = sealedWith(INT, OPTIONAL, kind, flags, INT, OPTIONAL);
                due("absent(1)", x.absent(1), true);
                due("the tuple", tuple(x), "[[0, 0, 0], [1, 0, 0], [0, 0, 0]]");
                due("absent(1) again", x.absent(1), true);
                due("the tuple", tuple(x), "[[0, 0, 0], [1, 0, 0], [0, 0, 0]]");
            }
        }
    }

    private static void absentLeavesTheRest() {
        KeyCodec x = filledKinds();
        String before = shownBesideTuple(x);
        due("absent(1)", x.absent(1), true);
        due("the tuple", tuple(x), "[[0, 77, 0], [1, 0, 0], [0, 2, 0, 200, 0], [0, 99, -5]]");
        due("what stands beside the tuple", shownBesideTuple(x), before);
        x.take(1);
        due("what is kept", value(x, 1), "[0, -88, 3]");
    }

    private static void absentWithoutOptional() {
        for (int flags : bytes(0, DOWN, LAST, LAST | DOWN)) {
            for (int kind = 0; kind <= 3; kind++) {
                KeyCodec x = sealedWith(INT, OPTIONAL, kind, flags, INT, OPTIONAL);
                dueStaying(x, "absent(1) of kind " + kind + ", flags " + flags, false, y -> y.absent(1));
            }
        }
    }

    private static void absentWithoutField() {
        due("the last one", filledKinds().absent(3), true);
        for (int f : NO_FIELDS) {
            dueStaying(filledKinds(), "absent(" + f + ")", false, x -> x.absent(f));
        }
        dueStaying(new KeyCodec(), "absent(0) without fields", false, x -> x.absent(0));
    }

    private static void absentWhileOpen() {
        KeyCodec x = openKinds();
        for (int f = 0; f < 4; f++) {
            int field = f;
            dueStaying(x, "absent(" + f + ")", false, y -> y.absent(field));
        }
        x.seal();
        due("the tuple behind seal()", tuple(x), "[[0, 0, 0], [0, 0, 0], [0, 0, 0], [0, 0, 0]]");
    }

    private static void get() {
        section("Promise 8");
        sentence("Of the loaded tuple's field: what 0: 1 if it is ABSENT, else 0", LoadedSentences::getAbsence);
        sentence("Of the loaded tuple's field: what 0: 1 if it is ABSENT, else 0", LoadedSentences::getLeavesAll);
        sentence("1: the INT, the digits, the seconds, how many bytes the TEXT has", LoadedSentences::getNumber);
        sentence("2: the scale or offset, 0 for others", LoadedSentences::getForm);
        sentence("3 and more: byte what - 3 of the TEXT.", LoadedSentences::getByte);
        sentence("1 and 2 are 0 for what is ABSENT", LoadedSentences::getOfAbsent);
        sentence("NONE if there is no such field", LoadedSentences::getWithoutField);
        sentence("what or byte", LoadedSentences::getWithoutWhat);
        sentence("what or byte", LoadedSentences::getWithoutByte);
        sentence("or the schema is open.", LoadedSentences::getWhileOpen);
    }

    private static void getAbsence() {
        KeyCodec x = filledKinds();
        for (int f = 0; f < 4; f++) {
            due("get(" + f + ", 0)", x.get(f, 0), 0);
            x.absent(f);
            due("get(" + f + ", 0), ABSENT", x.get(f, 0), 1);
        }
    }

    private static void getLeavesAll() {
        dueStaying(filledKinds(), "get(1, 0)", 0, x -> x.get(1, 0));
        dueStaying(filledKinds(), "get(3, 1)", 99, x -> x.get(3, 1));
        dueStaying(filledKinds(), "get(3, 2)", -5, x -> x.get(3, 2));
        dueStaying(filledKinds(), "get(2, 3)", 200, x -> x.get(2, 3));
    }

    private static void getNumber() {
        KeyCodec x = filledKinds();
        long[] want = {77, -88, 2, 99};
        for (int f = 0; f < 4; f++) {
            due("get(" + f + ", 1)", x.get(f, 1), want[f]);
        }
        for (long v : new long[] {Long.MIN_VALUE, Long.MAX_VALUE, -1, -2}) {
            x.put(0, v, 0);
            due("get(0, 1)", x.get(0, 1), v);
        }
        x.put(2, 0, 0);
        for (int size = 0; size <= 10; size++) {
            due("the text's size", x.get(2, 1), size);
            x.text(2, 255);
        }
    }

    private static void getForm() {
        KeyCodec x = filledKinds();
        int[] want = {0, 3, 0, -5};
        for (int f = 0; f < 4; f++) {
            due("get(" + f + ", 2)", x.get(f, 2), want[f]);
        }
        x.put(1, 0, 9);
        due("the scale of 0", x.get(1, 2), 9);
        x.put(3, 0, -900);
        due("the least offset", x.get(3, 2), -900);
        x.put(3, 0, -1);
        due("offset -1", x.get(3, 2), -1);
        putText(x, 2, repeated(9, 10));
        due("of a full TEXT", x.get(2, 2), 0);
    }

    private static void getByte() {
        KeyCodec x = filledKinds();
        putText(x, 2, 0, 1, 127, 128, 255, 5, 6, 7, 8, 254);
        int[] want = {0, 1, 127, 128, 255, 5, 6, 7, 8, 254};
        for (int i = 0; i < 10; i++) {
            due("get(2, " + (3 + i) + ")", x.get(2, 3 + i), want[i]);
        }
    }

    private static void getOfAbsent() {
        KeyCodec x = filledKinds();
        for (int f = 0; f < 4; f++) {
            x.absent(f);
            due("get(" + f + ", 1)", x.get(f, 1), 0);
            due("get(" + f + ", 2)", x.get(f, 2), 0);
        }
    }

    private static void getWithoutField() {
        KeyCodec x = filledKinds();
        for (int f : NO_FIELDS) {
            for (int what = 0; what <= 3; what++) {
                due("get(" + f + ", " + what + ")", x.get(f, what), NONE);
            }
        }
        KeyCodec five = sealedWith(INT, 0, INT, 0, INT, 0, INT, 0, INT, 0);
        due("get(4, 0) of five", five.get(4, 0), 0);
        due("get(5, 0) of five", five.get(5, 0), NONE);
    }

    private static void getWithoutWhat() {
        KeyCodec x = filledKinds();
        for (int f = 0; f < 4; f++) {
            due("get(" + f + ", -1)", x.get(f, -1), NONE);
            due("get(" + f + ", -2)", x.get(f, -2), NONE);
            due("get(" + f + ", least)", x.get(f, LEAST), NONE);
        }
    }

    private static void getWithoutByte() {
        KeyCodec x = filledKinds();
        for (int f : bytes(0, 1, 3)) {
            due("byte 0 of field " + f + ", no TEXT", x.get(f, 3), NONE);
            due("byte 9 of field " + f + ", no TEXT", x.get(f, 12), NONE);
        }
        due("the second of two", x.get(2, 4), 0);
        due("a third of two", x.get(2, 5), NONE);
        putText(x, 2, repeated(7, 10));
        due("the tenth of ten", x.get(2, 12), 7);
        due("an eleventh of ten", x.get(2, 13), NONE);
        due("byte far behind", x.get(2, MOST), NONE);
        x.put(2, 0, 0);
        due("the first of the empty text", x.get(2, 3), NONE);
        putText(x, 2, 7, 8);
        x.absent(2);
        due("the first of an ABSENT text", x.get(2, 3), NONE);
    }

    private static void getWhileOpen() {
        KeyCodec x = openKinds();
        for (int f = 0; f < 4; f++) {
            for (int what = 0; what <= 3; what++) {
                due("get(" + f + ", " + what + ")", x.get(f, what), NONE);
            }
        }
        x.seal();
        due("get(0, 0) behind seal()", x.get(0, 0), 0);
    }
}
