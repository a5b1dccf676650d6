/** Each promise of the document, by its number: ordinary inputs, the edges it names, wrong inputs. */
public final class PromisesTest {
    private static final int INT = 0;
    private static final int DECIMAL = 1;
    private static final int TEXT = 2;
    private static final int INSTANT = 3;
    private static final int DOWN = 1;
    private static final int OPTIONAL = 2;
    private static final int LAST = 4;
    private static final long LIMIT = 1_000_000_000_000_000L;
    private static final long FAR = 1L << 40;
    private static final String STATE = "IllegalStateException";
    private static final String ARGUMENT = "IllegalArgumentException";

    private static int promise = 0;
    private static int wrong = 0;
    private static int checks = 0;

    public static void main(String[] args) {
        promise1NewObject();
        promise2Field();
        promise3Seal();
        promise4Clear();
        promise5Put();
        promise6Text();
        promise7Absent();
        promise8Get();
        promise9Encode();
        promise9EncodeDecimals();
        promise9EncodeMarksAndTails();
        promise10Load();
        promise11ClearKey();
        promise12Key();
        promise13Decode();
        promise13RefusedInts();
        promise13RefusedTexts();
        promise13RefusedDecimals();
        promise13RefusedInstants();
        promise13RefusedMarks();
        promise14Keep();
        promise15Take();
        promise16Kept();
        promise17Compare();
        promise18CompareKeys();
        promise19Rank();
        promise20Shared();
        promise21Bounds();
        promise22Between();
        promise23Bound();
        promise24Within();
        System.out.println(wrong == 0 ? checks + " answers are as due" : wrong + " answers are not as due");
        if (wrong != 0) {
            System.exit(1);
        }
    }

    // What the tests are written with.

    private interface Call {
        Object run();
    }

    private static void due(String what, Object got, Object want) {
        checks++;
        if (!String.valueOf(got).equals(String.valueOf(want))) {
            wrong++;
            System.out.println("promise " + promise + ": " + what + " answered " + got + ", due is " + want);
        }
    }

    private static void dueThrow(String what, String want, Call call) {
        String got;
        try {
            got = "answer " + call.run();
        } catch (RuntimeException e) {
            got = e.getClass().getSimpleName();
        }
        due(what, got, want);
    }

    /** An object with a sealed schema: kind, flags, kind, flags, .. */
    private static KeyCodec sealed(int... kindsAndFlags) {
        KeyCodec x = new KeyCodec();
        addFields(x, kindsAndFlags);
        due("seal", x.seal(), true);
        return x;
    }

    private static void addFields(KeyCodec x, int... kindsAndFlags) {
        for (int i = 0; i < kindsAndFlags.length; i += 2) {
            due("field", x.field(kindsAndFlags[i], kindsAndFlags[i + 1]), i / 2);
        }
    }

    private static void texts(KeyCodec x, int field, int... bytes) {
        due("put for a text", x.put(field, 0, 0), true);
        for (int b : bytes) {
            due("text", x.text(field, b), true);
        }
    }

    private static void load(KeyCodec x, int... bytes) {
        x.clearKey();
        for (int b : bytes) {
            due("load", x.load(1, b), true);
        }
    }

    private static String row(int... bytes) {
        StringBuilder text = new StringBuilder();
        for (int b : bytes) {
            text.append(b).append(' ');
        }
        return text.toString();
    }

    private static String keyOf(KeyCodec x) {
        int[] bytes = new int[x.key(-1)];
        for (int i = 0; i < bytes.length; i++) {
            bytes[i] = x.key(i);
        }
        due("behind the key", x.key(bytes.length), -1);
        return row(bytes);
    }

    private static String boundOf(KeyCodec x, int how) {
        int size = x.bound(how, -1);
        if (size == -1) {
            due("HIGH without end has no byte", x.bound(how, 0), -1);
            return "no end";
        }
        int[] bytes = new int[size];
        for (int i = 0; i < size; i++) {
            bytes[i] = x.bound(how, i);
        }
        due("behind the bound", x.bound(how, size), -1);
        return row(bytes);
    }

    private static void dueKey(KeyCodec x, int... bytes) {
        due("encode", x.encode(), bytes.length);
        due("the key", keyOf(x), row(bytes));
    }

    private static int keepValue(KeyCodec x, long value, int form) {
        due("put", x.put(0, value, form), true);
        return x.keep();
    }

    private static void dueRefused(KeyCodec x, int... bytes) {
        load(x, bytes);
        dueThrow("decode of " + row(bytes), ARGUMENT, x::decode);
        due("the key row stays", x.key(-1), bytes.length);
    }

    private static void dueRead(KeyCodec x, long value, int form, int... bytes) {
        load(x, bytes);
        due("decode", x.decode(), true);
        due("the number read", x.get(0, 1), value);
        due("the form read", x.get(0, 2), form);
        due("the key row stays", keyOf(x), row(bytes));
    }

    // The promises.

    private static void promise1NewObject() {
        promise = 1;
        KeyCodec x = new KeyCodec();
        due("NONE", KeyCodec.NONE, -1);
        due("kept", x.kept(), 0);
        due("key(-1)", x.key(-1), 0);
        due("LOW", boundOf(x, 0), row());
        due("HIGH", boundOf(x, 1), "no end");
        due("get", x.get(0, 0), -1);
        dueThrow("encode", STATE, x::encode);
        due("seal without a field", x.seal(), false);
        due("the first field", x.field(INT, 0), 0);
    }

    private static void promise2Field() {
        promise = 2;
        KeyCodec x = new KeyCodec();
        for (int kind : new int[] {-1, 4, Integer.MIN_VALUE, Integer.MAX_VALUE}) {
            dueThrow("kind " + kind, ARGUMENT, () -> x.field(kind, 0));
        }
        for (int flags : new int[] {-1, 8, 16, Integer.MIN_VALUE, Integer.MAX_VALUE}) {
            dueThrow("flags " + flags, ARGUMENT, () -> x.field(INT, flags));
        }
        for (int i = 0; i < 5; i++) {
            due("field", x.field(i % 4, 7 - i), i);
        }
        dueThrow("a sixth", STATE, () -> x.field(INT, 0));
        dueThrow("a wrong sixth", ARGUMENT, () -> x.field(INT, 8));
        KeyCodec y = sealed(INT, 0);
        dueThrow("one behind the seal", STATE, () -> y.field(INT, 0));
        dueThrow("a wrong one behind the seal", ARGUMENT, () -> y.field(4, 0));
        for (int flags = 0; flags < 8; flags++) {
            due("every set of flags", new KeyCodec().field(TEXT, flags), 0);
        }
    }

    private static void promise3Seal() {
        promise = 3;
        KeyCodec x = new KeyCodec();
        due("seal without a field", x.seal(), false);
        addFields(x, INT, 0, TEXT, OPTIONAL);
        due("load before", x.load(1, 9), true);
        due("seal", x.seal(), true);
        due("the key row stays", keyOf(x), row(9));
        x.put(0, 7, 0);
        x.absent(1);
        due("seal again", x.seal(), false);
        due("the loaded tuple stays", x.get(0, 1), 7);
        due("the loaded tuple stays", x.get(1, 0), 1);
        x.clear();
        addFields(x, DECIMAL, 0, INSTANT, OPTIONAL);
        due("seal anew", x.seal(), true);
        due("digits at first", x.get(0, 1), 0);
        due("nothing is absent at first", x.get(1, 0), 0);
    }

    private static void promise4Clear() {
        promise = 4;
        KeyCodec x = sealed(TEXT, OPTIONAL, INSTANT, 0);
        texts(x, 0, 1, 2);
        x.put(1, 5, 6);
        x.encode();
        x.keep();
        due("bounds", x.bounds(0, 1), true);
        String low = boundOf(x, 0);
        String high = boundOf(x, 1);
        x.clear();
        due("kept", x.kept(), 0);
        due("key row", keyOf(x), row());
        due("get", x.get(0, 0), -1);
        dueThrow("encode", STATE, x::encode);
        due("take", x.take(0), false);
        due("seal", x.seal(), false);
        due("LOW stays", boundOf(x, 0), low);
        due("HIGH stays", boundOf(x, 1), high);
        addFields(x, TEXT, 0, INSTANT, 0);
        x.seal();
        due("the text is empty", x.get(0, 1), 0);
        due("seconds", x.get(1, 1), 0);
        due("offset", x.get(1, 2), 0);
        due("keep", x.keep(), 0);
        KeyCodec y = new KeyCodec();
        y.field(INT, 0);
        y.clear();
        due("the open fields are gone", y.field(TEXT, 0), 0);
    }

    private static void promise5Put() {
        promise = 5;
        KeyCodec x = new KeyCodec();
        addFields(x, INT, OPTIONAL, DECIMAL, OPTIONAL, TEXT, OPTIONAL, INSTANT, OPTIONAL);
        due("open", x.put(0, 1, 0), false);
        x.seal();
        due("no field -1", x.put(-1, 0, 0), false);
        due("no field 4", x.put(4, 0, 0), false);
        due("no field", x.put(Integer.MAX_VALUE, 0, 0), false);
        for (long v : new long[] {0, -1, Long.MIN_VALUE, Long.MAX_VALUE}) {
            due("INT", x.put(0, v, 0), true);
            due("the INT", x.get(0, 1), v);
        }
        due("INT with form 1", x.put(0, 3, 1), false);
        due("INT with form -1", x.put(0, 3, -1), false);
        due("the INT stays", x.get(0, 1), Long.MAX_VALUE);
        duePairs(x, 1, LIMIT, 0, 9);
        duePairs(x, 3, FAR, -900, 900);
        texts(x, 2, 1, 2, 3);
        due("TEXT with a value", x.put(2, 1, 0), false);
        due("TEXT with a form", x.put(2, 0, 1), false);
        due("the text stays", x.get(2, 1), 3);
        due("TEXT", x.put(2, 0, 0), true);
        due("the empty text", x.get(2, 1), 0);
        due("it has no byte", x.get(2, 3), -1);
        for (int f = 0; f < 4; f++) {
            x.absent(f);
            due("wrong put", x.put(f, 1, 5000), false);
            due("it stays absent", x.get(f, 0), 1);
            due("put", x.put(f, 0, 0), true);
            due("it is not absent", x.get(f, 0), 0);
        }
    }

    private static void duePairs(KeyCodec x, int f, long most, int leastForm, int mostForm) {
        for (long v : new long[] {most, -most}) {
            due("put", x.put(f, v, mostForm), true);
            due("the number", x.get(f, 1), v);
            due("the form", x.get(f, 2), mostForm);
            due("put", x.put(f, v, leastForm), true);
            due("the form", x.get(f, 2), leastForm);
        }
        for (long v : new long[] {most + 1, -most - 1, Long.MIN_VALUE, Long.MAX_VALUE}) {
            due("put beyond", x.put(f, v, 0), false);
        }
        due("put with a form beyond", x.put(f, 1, mostForm + 1), false);
        due("put with a form below", x.put(f, 1, leastForm - 1), false);
        due("the number stays", x.get(f, 1), -most);
        due("the form stays", x.get(f, 2), leastForm);
    }

    private static void promise6Text() {
        promise = 6;
        KeyCodec x = new KeyCodec();
        addFields(x, TEXT, OPTIONAL, INT, 0);
        due("open", x.text(0, 1), false);
        x.seal();
        due("no TEXT", x.text(1, 1), false);
        due("no field", x.text(2, 1), false);
        due("no field", x.text(-1, 1), false);
        due("text", x.text(0, 0x1ff), true);
        due("the lowest eight bits", x.get(0, 3), 255);
        due("text", x.text(0, -256), true);
        due("the lowest eight bits", x.get(0, 4), 0);
        for (int i = 2; i < 10; i++) {
            due("text", x.text(0, i), true);
        }
        due("an eleventh", x.text(0, 1), false);
        due("it has ten", x.get(0, 1), 10);
        due("the tenth", x.get(0, 12), 9);
        x.absent(0);
        due("behind ABSENT", x.text(0, 65), true);
        due("it is not ABSENT", x.get(0, 0), 0);
        due("just this", x.get(0, 1), 1);
        due("just this", x.get(0, 3), 65);
    }

    private static void promise7Absent() {
        promise = 7;
        KeyCodec x = new KeyCodec();
        addFields(x, INT, OPTIONAL, INT, DOWN | LAST, DECIMAL, OPTIONAL | LAST);
        due("open", x.absent(0), false);
        x.seal();
        due("optional", x.absent(0), true);
        due("not optional", x.absent(1), false);
        due("optional and last", x.absent(2), true);
        due("again", x.absent(2), true);
        due("none", x.absent(3), false);
        due("none", x.absent(-1), false);
        due("absent", x.get(0, 0), 1);
        due("not absent", x.get(1, 0), 0);
        due("absent", x.get(2, 0), 1);
    }

    private static void promise8Get() {
        promise = 8;
        KeyCodec x = new KeyCodec();
        addFields(x, INT, OPTIONAL, DECIMAL, OPTIONAL, TEXT, OPTIONAL, INSTANT, OPTIONAL);
        due("open", x.get(0, 0), -1);
        x.seal();
        for (int f = 0; f < 4; f++) {
            for (int what = 0; what < 3; what++) {
                due("at first", x.get(f, what), 0);
            }
            due("no what -1", x.get(f, -1), -1);
            due("no what", x.get(f, Integer.MIN_VALUE), -1);
            due("no byte", x.get(f, 3), -1);
            due("no byte", x.get(f, Integer.MAX_VALUE), -1);
        }
        due("no field", x.get(4, 0), -1);
        due("no field", x.get(-1, 0), -1);
        x.put(0, 77, 0);
        x.put(1, -88, 3);
        texts(x, 2, 200, 0);
        x.put(3, 99, -5);
        long[][] want = {{0, 77, 0, -1, -1}, {0, -88, 3, -1, -1}, {0, 2, 0, 200, 0}, {0, 99, -5, -1, -1}};
        for (int f = 0; f < 4; f++) {
            for (int what = 0; what < 5; what++) {
                due("get(" + f + ", " + what + ")", x.get(f, what), want[f][what]);
            }
            x.absent(f);
            due("ABSENT", x.get(f, 0), 1);
            due("1 of ABSENT", x.get(f, 1), 0);
            due("2 of ABSENT", x.get(f, 2), 0);
            due("3 of ABSENT", x.get(f, 3), -1);
        }
    }

    private static void promise9Encode() {
        promise = 9;
        KeyCodec open = new KeyCodec();
        open.field(INT, 0);
        open.load(1, 7);
        dueThrow("open", STATE, open::encode);
        due("the key row stays", keyOf(open), row(7));
        KeyCodec x = sealed(INT, 0);
        dueInt(x, 0, 128);
        dueInt(x, 1, 129, 1);
        dueInt(x, 255, 129, 255);
        dueInt(x, 256, 130, 1, 0);
        dueInt(x, 1L << 56, 136, 1, 0, 0, 0, 0, 0, 0, 0);
        dueInt(x, Long.MAX_VALUE, 136, 127, 255, 255, 255, 255, 255, 255, 255);
        dueInt(x, -1, 127);
        dueInt(x, -2, 126, 254);
        dueInt(x, -256, 126, 0);
        dueInt(x, -257, 125, 254, 255);
        dueInt(x, Long.MIN_VALUE, 119, 128, 0, 0, 0, 0, 0, 0, 0);
        KeyCodec down = sealed(INT, DOWN);
        dueInt(down, 0, 127);
        dueInt(down, 300, 125, 254, 211);
        dueInt(down, -2, 129, 1);
        KeyCodec t = sealed(TEXT, 0, TEXT, DOWN);
        dueKey(t, 0, 1, 255, 254);
        texts(t, 0, 97, 0, 255);
        texts(t, 1, 97, 0, 255);
        dueKey(t, 97, 0, 255, 255, 0, 1, 158, 255, 0, 0, 255, 254);
    }

    private static void dueInt(KeyCodec x, long value, int... bytes) {
        due("put", x.put(0, value, 0), true);
        dueKey(x, bytes);
    }

    private static void promise9EncodeDecimals() {
        KeyCodec x = sealed(DECIMAL, 0);
        KeyCodec down = sealed(DECIMAL, DOWN);
        dueDecimal(x, 0, 0, 2, 0);
        dueDecimal(x, 0, 9, 2, 9);
        dueDecimal(down, 0, 4, 253, 4);
        dueDecimal(x, 1, 0, 3, 65, 2, 0, 0);
        dueDecimal(x, 1, 9, 3, 56, 2, 0, 9);
        dueDecimal(x, 10, 0, 3, 66, 2, 0, 0);
        dueDecimal(x, 1050, 2, 3, 66, 2, 1, 6, 0, 2);
        dueDecimal(x, -1050, 2, 1, 189, 253, 254, 249, 255, 2);
        dueDecimal(down, 1050, 2, 252, 189, 253, 254, 249, 255, 2);
        dueDecimal(down, -1050, 2, 254, 66, 2, 1, 6, 0, 2);
        dueDecimal(x, LIMIT, 0, 3, 80, 2, 0, 0);
        dueDecimal(x, -LIMIT, 9, 1, 184, 253, 255, 9);
        dueDecimal(x, LIMIT - 1, 9, 3, 70, 10, 10, 10, 10, 10, 10, 10, 10, 10, 10, 10, 10, 10, 10, 10, 0, 9);
    }

    private static void dueDecimal(KeyCodec x, long digits, int scale, int... bytes) {
        due("put", x.put(0, digits, scale), true);
        dueKey(x, bytes);
    }

    private static void promise9EncodeMarksAndTails() {
        KeyCodec x = sealed(INT, OPTIONAL, INT, OPTIONAL | LAST, INT, OPTIONAL | DOWN, INT, LAST,
                INT, OPTIONAL | LAST | DOWN);
        dueKey(x, 1, 128, 1, 128, 1, 127, 128, 1, 127);
        x.absent(0);
        x.absent(1);
        x.absent(2);
        x.absent(4);
        dueKey(x, 0, 2, 0, 128, 2);
        KeyCodec y = sealed(INSTANT, DOWN, DECIMAL, OPTIONAL, INSTANT, OPTIONAL, DECIMAL, DOWN, TEXT, 0);
        y.put(0, -FAR, 900);
        y.put(1, 5, 1);
        y.put(2, FAR, -900);
        y.put(3, 0, 7);
        dueKey(y, 133, 255, 255, 255, 255, 255, 1, 3, 64, 6, 0, 1, 134, 1, 0, 0, 0, 0, 0, 253, 0, 1,
                7, 108, 1, 0, 100, 7);
        y.absent(1);
        y.absent(2);
        dueKey(y, 133, 255, 255, 255, 255, 255, 0, 0, 253, 0, 1, 7, 108, 7);
        KeyCodec longest = sealed(TEXT, 2, TEXT, 3, TEXT, 6, TEXT, 7, TEXT, 2);
        for (int f = 0; f < 5; f++) {
            texts(longest, f, 0, 0, 0, 0, 0, 0, 0, 0, 0, 0);
        }
        due("the longest key", longest.encode(), 115);
        due("read back", longest.decode(), true);
        due("its last text", longest.get(4, 1), 10);
    }

    private static void promise10Load() {
        promise = 10;
        KeyCodec x = new KeyCodec();
        for (int n : new int[] {0, -1, 9, Integer.MAX_VALUE, Integer.MIN_VALUE}) {
            due("load of " + n, x.load(n, 1), false);
        }
        due("nothing came", keyOf(x), row());
        due("load", x.load(8, 0x0102030405060708L), true);
        due("load", x.load(3, 0x090a0b0c0d0e0fL), true);
        due("load", x.load(1, -1), true);
        due("load", x.load(2, 256), true);
        due("the row", keyOf(x), row(1, 2, 3, 4, 5, 6, 7, 8, 13, 14, 15, 255, 1, 0));
        for (int i = 0; i < 13; i++) {
            due("load", x.load(8, i), true);
        }
        due("118", x.key(-1), 118);
        due("no room for 3", x.load(3, 1), false);
        due("nothing of it came", x.key(-1), 118);
        due("room for 2", x.load(2, 0x0506), true);
        due("120", x.key(-1), 120);
        due("the last", x.key(119), 6);
        due("full", x.load(1, 1), false);
        due("still 120", x.key(-1), 120);
    }

    private static void promise11ClearKey() {
        promise = 11;
        KeyCodec x = sealed(INT, 0);
        x.put(0, 1000, 0);
        x.encode();
        x.clearKey();
        due("empty", keyOf(x), row());
        due("no byte", x.key(0), -1);
        due("the loaded tuple stays", x.get(0, 1), 1000);
        x.clearKey();
        due("empty", x.key(-1), 0);
        due("load", x.load(1, 5), true);
        due("from the beginning", keyOf(x), row(5));
    }

    private static void promise12Key() {
        promise = 12;
        KeyCodec x = new KeyCodec();
        due("none", x.key(0), -1);
        due("how many", x.key(-1), 0);
        x.load(2, 0xff00);
        due("byte 0", x.key(0), 255);
        due("byte 1", x.key(1), 0);
        due("how many", x.key(-1), 2);
        for (int k : new int[] {2, 119, 120, 121, -2, Integer.MAX_VALUE, Integer.MIN_VALUE}) {
            due("no byte " + k, x.key(k), -1);
        }
    }

    private static void promise13Decode() {
        promise = 13;
        KeyCodec open = new KeyCodec();
        open.field(INT, 0);
        dueThrow("open", STATE, open::decode);
        KeyCodec x = sealed(INT, 0);
        dueRead(x, 0, 0, 128);
        dueRead(x, 300, 0, 130, 1, 44);
        dueRead(x, -1, 0, 127);
        dueRead(x, Long.MIN_VALUE, 0, 119, 128, 0, 0, 0, 0, 0, 0, 0);
        dueRead(x, Long.MAX_VALUE, 0, 136, 127, 255, 255, 255, 255, 255, 255, 255);
        KeyCodec d = sealed(DECIMAL, DOWN);
        dueRead(d, -1050, 2, 254, 66, 2, 1, 6, 0, 2);
        dueRead(d, -10500, 3, 254, 66, 2, 1, 6, 0, 3);
        dueRead(d, 0, 9, 253, 9);
        dueRead(d, LIMIT, 0, 252, 175, 253, 255, 0);
        dueRead(d, LIMIT, 9, 252, 184, 253, 255, 9);
        KeyCodec i = sealed(INSTANT, 0);
        dueRead(i, FAR, 900, 134, 1, 0, 0, 0, 0, 0, 7, 108);
        dueRead(i, -FAR, -900, 122, 0, 0, 0, 0, 0, 0, 100);
        KeyCodec m = sealed(TEXT, OPTIONAL | DOWN, DECIMAL, OPTIONAL | LAST, INSTANT, OPTIONAL);
        load(m, 1, 158, 255, 0, 255, 254, 2, 0);
        due("decode", m.decode(), true);
        due("the text's size", m.get(0, 1), 2);
        due("the text's first", m.get(0, 3), 97);
        due("the text's second", m.get(0, 4), 0);
        due("the decimal is absent", m.get(1, 0), 1);
        due("the instant is absent", m.get(2, 0), 1);
    }

    private static void promise13RefusedInts() {
        KeyCodec x = sealed(INT, 0);
        x.put(0, 42, 0);
        dueRefused(x);
        dueRefused(x, 129);
        dueRefused(x, 130, 1);
        dueRefused(x, 129, 0);
        dueRefused(x, 130, 0, 255);
        dueRefused(x, 126, 255);
        dueRefused(x, 125, 255, 0);
        dueRefused(x, 128, 0);
        dueRefused(x, 129, 5, 5);
        dueRefused(x, 0);
        dueRefused(x, 255);
        dueRefused(x, 136, 128, 0, 0, 0, 0, 0, 0, 0);
        dueRefused(x, 119, 127, 255, 255, 255, 255, 255, 255, 255);
        dueRefused(x, 137, 1, 0, 0, 0, 0, 0, 0, 0, 0);
        dueRefused(x, 118, 1, 0, 0, 0, 0, 0, 0, 0, 0);
        due("the loaded tuple stays", x.get(0, 1), 42);
    }

    private static void promise13RefusedTexts() {
        KeyCodec x = sealed(TEXT, 0);
        texts(x, 0, 42);
        dueRefused(x);
        dueRefused(x, 97);
        dueRefused(x, 97, 0);
        dueRefused(x, 97, 0, 2);
        dueRefused(x, 97, 0, 0);
        dueRefused(x, 97, 0, 255);
        dueRefused(x, 97, 0, 1, 0);
        dueRefused(x, 1, 2, 3, 4, 5, 6, 7, 8, 9, 10, 11, 0, 1);
        dueRefused(x, 1, 2, 3, 4, 5, 6, 7, 8, 9, 10, 0, 255, 0, 1);
        due("the loaded text stays", x.get(0, 1), 1);
        due("the loaded text stays", x.get(0, 3), 42);
        load(x, 1, 2, 3, 4, 5, 6, 7, 8, 9, 10, 0, 1);
        due("ten are a text", x.decode(), true);
        due("ten", x.get(0, 1), 10);
    }

    private static void promise13RefusedDecimals() {
        KeyCodec x = sealed(DECIMAL, 0);
        x.put(0, 42, 1);
        dueRefused(x);
        dueRefused(x, 2);
        dueRefused(x, 2, 10);
        dueRefused(x, 2, 255);
        dueRefused(x, 2, 0, 0);
        dueRefused(x, 0, 0);
        dueRefused(x, 4, 65, 2, 0, 0);
        dueRefused(x, 3);
        dueRefused(x, 3, 65);
        dueRefused(x, 3, 65, 2);
        dueRefused(x, 3, 65, 2, 0);
        dueRefused(x, 3, 65, 0, 0);
        dueRefused(x, 3, 65, 1, 0, 0);
        dueRefused(x, 3, 65, 1, 2, 0, 1);
        dueRefused(x, 3, 65, 2, 1, 0, 1);
        dueRefused(x, 3, 65, 11, 0, 0);
        dueRefused(x, 3, 65, 2, 6, 0, 0);
        dueRefused(x, 3, 65, 2, 0, 10);
        dueRefused(x, 3, 80, 2, 0, 1);
        dueRefused(x, 3, 81, 2, 0, 0);
        dueRefused(x, 3, 80, 3, 0, 0);
        dueRefused(x, 3, 55, 2, 0, 9);
        dueRefused(x, 3, 0, 2, 0, 9);
        dueRefused(x, 3, 255, 2, 0, 0);
        dueRefused(x, 3, 80, 2, 1, 1, 1, 1, 1, 1, 1, 1, 1, 1, 1, 1, 1, 1, 2, 0, 0);
        dueRefused(x, 3, 70, 2, 1, 1, 1, 1, 1, 1, 1, 1, 1, 1, 1, 1, 1, 1, 1, 1, 1, 1, 1, 2, 0, 9);
        dueRefused(x, 1, 65, 2, 0, 0);
        dueRefused(x, 1, 190, 253, 254, 255, 1);
        dueRefused(x, 1, 255, 253, 255, 0);
        due("the digits stay", x.get(0, 1), 42);
        due("the scale stays", x.get(0, 2), 1);
    }

    private static void promise13RefusedInstants() {
        KeyCodec x = sealed(INSTANT, 0);
        x.put(0, 42, 1);
        dueRefused(x, 128);
        dueRefused(x, 128, 3);
        dueRefused(x, 128, 0, 99);
        dueRefused(x, 128, 7, 109);
        dueRefused(x, 128, 255, 255);
        dueRefused(x, 128, 3, 232, 0);
        dueRefused(x, 134, 1, 0, 0, 0, 0, 1, 3, 232);
        dueRefused(x, 121, 254, 255, 255, 255, 255, 255, 3, 232);
        dueRefused(x, 136, 127, 0, 0, 0, 0, 0, 0, 0, 3, 232);
        due("the seconds stay", x.get(0, 1), 42);
        due("the offset stays", x.get(0, 2), 1);
    }

    private static void promise13RefusedMarks() {
        KeyCodec x = sealed(INT, OPTIONAL, INT, OPTIONAL | LAST | DOWN);
        dueRefused(x, 2, 2);
        dueRefused(x, 0, 0);
        dueRefused(x, 3, 2);
        dueRefused(x, 0, 3);
        dueRefused(x, 0, 253);
        dueRefused(x, 0, 254, 128);
        dueRefused(x, 1, 2);
        dueRefused(x, 0);
        dueRefused(x, 0, 2, 0);
        load(x, 0, 2);
        due("both absent", x.decode(), true);
        due("absent", x.get(0, 0), 1);
        load(x, 1, 129, 9, 1, 126, 246);
        due("both present", x.decode(), true);
        due("not absent", x.get(0, 0), 0);
        due("the first", x.get(0, 1), 9);
        due("the second", x.get(1, 1), 9);
    }

    private static void promise14Keep() {
        promise = 14;
        KeyCodec x = new KeyCodec();
        dueThrow("open", STATE, x::keep);
        x.field(INT, 0);
        dueThrow("open", STATE, x::keep);
        x.seal();
        for (int i = 0; i < 12; i++) {
            x.put(0, i * 100, 0);
            due("keep", x.keep(), i);
        }
        dueThrow("a thirteenth", STATE, x::keep);
        due("twelve", x.kept(), 12);
        due("the loaded one stays", x.get(0, 1), 1100);
        x.take(3);
        due("what is kept does not follow what is loaded", x.get(0, 1), 300);
    }

    private static void promise15Take() {
        promise = 15;
        KeyCodec x = sealed(TEXT, OPTIONAL, DECIMAL, 0, INSTANT, OPTIONAL);
        due("none", x.take(0), false);
        texts(x, 0, 5, 6);
        x.put(1, 70, 1);
        x.absent(2);
        x.keep();
        texts(x, 0, 9);
        x.put(1, 8, 2);
        x.put(2, 3, 4);
        x.encode();
        String key = keyOf(x);
        due("no -1", x.take(-1), false);
        due("no 1", x.take(1), false);
        due("a failed take changes nothing", x.get(1, 1), 8);
        due("take", x.take(0), true);
        long[][] want = {{0, 2, 0, 5, 6, -1}, {0, 70, 1, -1, -1, -1}, {1, 0, 0, -1, -1, -1}};
        for (int f = 0; f < 3; f++) {
            for (int what = 0; what < 6; what++) {
                due("get(" + f + ", " + what + ")", x.get(f, what), want[f][what]);
            }
        }
        due("the key row stays", keyOf(x), key);
        texts(x, 0, 1, 1, 1);
        x.take(0);
        due("what is loaded does not change what is kept", x.get(0, 3), 5);
    }

    private static void promise16Kept() {
        promise = 16;
        KeyCodec x = new KeyCodec();
        due("open", x.kept(), 0);
        x.field(INT, 0);
        x.seal();
        due("none", x.kept(), 0);
        x.keep();
        x.keep();
        due("two, though equal", x.kept(), 2);
        x.take(0);
        due("still two", x.kept(), 2);
        x.clear();
        due("none", x.kept(), 0);
    }

    private static void promise17Compare() {
        promise = 17;
        KeyCodec x = sealed(DECIMAL, OPTIONAL, INT, DOWN, INSTANT, OPTIONAL | LAST | DOWN);
        due("none kept", x.compare(0, 0), -2);
        x.put(0, 15, 1);
        x.keep();
        x.put(0, 1500, 3);
        x.keep();
        due("whatever the scales", x.compare(0, 1), 0);
        x.put(1, 1, 0);
        x.keep();
        due("DOWN", x.compare(2, 0), -1);
        due("DOWN", x.compare(0, 2), 1);
        x.put(2, 0, 30);
        x.keep();
        due("by seconds alone", x.compare(2, 3), 0);
        x.put(2, 1, -900);
        x.keep();
        due("DOWN", x.compare(4, 3), -1);
        x.absent(2);
        x.keep();
        due("ABSENT behind all, DOWN or not", x.compare(5, 3), 1);
        due("ABSENT behind all, DOWN or not", x.compare(4, 5), -1);
        x.absent(0);
        x.keep();
        x.put(0, -LIMIT, 0);
        x.keep();
        due("ABSENT before all", x.compare(6, 7), -1);
        due("equal to itself", x.compare(6, 6), 0);
        for (int none : new int[] {8, -1, 12, Integer.MAX_VALUE, Integer.MIN_VALUE}) {
            due("none such", x.compare(0, none), -2);
            due("none such", x.compare(none, 0), -2);
        }
    }

    private static void promise18CompareKeys() {
        promise = 18;
        KeyCodec x = sealed(DECIMAL, DOWN);
        due("none kept", x.compareKeys(0, 0), -2);
        keepValue(x, 15, 1);
        keepValue(x, 150, 2);
        keepValue(x, 16, 1);
        keepValue(x, 15, 1);
        due("the tail tells them apart", x.compareKeys(0, 1), -1);
        due("the tail tells them apart", x.compareKeys(1, 0), 1);
        due("the tail is not turned, the value is", x.compareKeys(2, 1), -1);
        due("equal", x.compareKeys(0, 3), 0);
        for (int none : new int[] {4, -1, 12, Integer.MAX_VALUE, Integer.MIN_VALUE}) {
            due("none such", x.compareKeys(0, none), -2);
            due("none such", x.compareKeys(none, 0), -2);
        }
        KeyCodec t = sealed(INSTANT, 0);
        keepValue(t, 7, 1);
        keepValue(t, 7, -1);
        due("offsets", t.compareKeys(0, 1), 1);
    }

    private static void promise19Rank() {
        promise = 19;
        KeyCodec x = sealed(DECIMAL, 0);
        due("none kept", x.rank(0), -1);
        int[][] values = {{5, 0}, {50, 1}, {-3, 0}, {5, 0}, {0, 4}, {5, 0}};
        int[] ranks = {2, 5, 0, 3, 1, 4};
        for (int[] value : values) {
            keepValue(x, value[0], value[1]);
        }
        for (int i = 0; i < ranks.length; i++) {
            due("rank(" + i + ")", x.rank(i), ranks[i]);
        }
        due("none such", x.rank(6), -1);
        due("none such", x.rank(-1), -1);
        due("none such", x.rank(Integer.MAX_VALUE), -1);
    }

    private static void promise20Shared() {
        promise = 20;
        KeyCodec x = sealed(TEXT, 0);
        due("no rank at all", x.shared(0), -1);
        int[][] kept = {{98, 99}, {97, 98, 99}, {97, 98}, {97, 98, 0}, {97, 98}};
        for (int[] bytes : kept) {
            texts(x, 0, bytes);
            x.keep();
        }
        // ab, ab, ab0, abc, bc
        int[] want = {0, 4, 3, 2, 0};
        for (int r = 0; r < want.length; r++) {
            due("shared(" + r + ")", x.shared(r), want[r]);
        }
        due("no such rank", x.shared(5), -1);
        due("no such rank", x.shared(-1), -1);
        due("no such rank", x.shared(Integer.MIN_VALUE), -1);
        KeyCodec d = sealed(DECIMAL, 0);
        keepValue(d, 5, 0);
        keepValue(d, 50, 1);
        due("up to the tail", d.shared(1), 4);
    }

    private static void promise21Bounds() {
        promise = 21;
        KeyCodec x = sealed(DECIMAL, OPTIONAL, TEXT, DOWN);
        due("none kept", x.bounds(0, 0), false);
        x.put(0, -25, 1);
        x.keep();
        due("k 0", x.bounds(0, 0), true);
        due("LOW", boundOf(x, 0), row());
        due("HIGH", boundOf(x, 1), "no end");
        due("k 1", x.bounds(0, 1), true);
        due("LOW", boundOf(x, 0), row(1, 1, 190, 252, 249, 255));
        due("HIGH drops the 255 at the end", boundOf(x, 1), row(1, 1, 190, 252, 250));
        due("k 2", x.bounds(0, 2), true);
        due("LOW without the TAIL", boundOf(x, 0), row(1, 1, 190, 252, 249, 255, 255, 254));
        due("HIGH", boundOf(x, 1), row(1, 1, 190, 252, 249, 255, 255, 255));
        String low = boundOf(x, 0);
        due("k 3", x.bounds(0, 3), false);
        due("k -1", x.bounds(0, -1), false);
        due("no tuple", x.bounds(1, 1), false);
        due("no tuple", x.bounds(-1, 1), false);
        due("LOW stays", boundOf(x, 0), low);
        due("HIGH stays", x.bound(1, -1), 8);
        x.absent(0);
        x.keep();
        due("ABSENT", x.bounds(1, 1), true);
        due("LOW", boundOf(x, 0), row(0));
        due("HIGH", boundOf(x, 1), row(1));
        due("k 0 again", x.bounds(1, 0), true);
        due("HIGH without end again", boundOf(x, 1), "no end");
    }

    private static void promise22Between() {
        promise = 22;
        KeyCodec x = sealed(INT, 0, DECIMAL, 0, TEXT, OPTIONAL);
        due("none kept", x.between(0, 0, 0, 0), false);
        for (int i = 1; i <= 3; i++) {
            x.put(0, i, 0);
            x.put(1, i, 1);
            texts(x, 2, 96 + i);
            x.keep();
        }
        due("k 0", x.between(0, 0, 1, 2), true);
        due("LOW", boundOf(x, 0), row(129, 2));
        due("HIGH", boundOf(x, 1), row(129, 3));
        due("k 1", x.between(0, 1, 1, 2), true);
        due("LOW", boundOf(x, 0), row(129, 1, 3, 64, 3, 0));
        due("HIGH", boundOf(x, 1), row(129, 1, 3, 64, 4, 0));
        due("k 2", x.between(2, 2, 1, 0), true);
        due("LOW", boundOf(x, 0), row(129, 3, 3, 64, 4, 0, 1, 98, 0, 1));
        due("HIGH, though before LOW", boundOf(x, 1), row(129, 3, 3, 64, 4, 0, 1, 97, 0, 1));
        due("k 3", x.between(0, 3, 1, 2), false);
        due("k -1", x.between(0, -1, 1, 2), false);
        for (int none : new int[] {3, -1, 12, Integer.MAX_VALUE}) {
            due("no n", x.between(none, 0, 1, 2), false);
            due("no a", x.between(0, 0, none, 2), false);
            due("no b", x.between(0, 0, 1, none), false);
        }
        due("LOW stays", x.bound(0, 7), 98);
        due("HIGH stays", x.bound(1, 7), 97);
        x.bounds(0, 0);
        due("k 0 behind bounds without end", x.between(0, 0, 0, 0), true);
        due("HIGH has an end", boundOf(x, 1), row(129, 1));
    }

    private static void promise23Bound() {
        promise = 23;
        KeyCodec x = sealed(INT, 0);
        due("LOW at first", x.bound(0, -1), 0);
        due("no byte of LOW", x.bound(0, 0), -1);
        due("HIGH at first", x.bound(1, -1), -1);
        due("no byte of HIGH", x.bound(1, 0), -1);
        keepValue(x, 255, 0);
        x.bounds(0, 1);
        due("LOW", boundOf(x, 0), row(129, 255));
        due("HIGH", boundOf(x, 1), row(130));
        for (int j : new int[] {2, -2, 120, Integer.MAX_VALUE, Integer.MIN_VALUE}) {
            due("no byte of LOW", x.bound(0, j), -1);
            due("no byte of HIGH", x.bound(1, j), -1);
        }
        for (int how : new int[] {-1, 2, Integer.MAX_VALUE}) {
            due("neither", x.bound(how, 0), -1);
            due("neither", x.bound(how, -1), -1);
        }
    }

    private static void promise24Within() {
        promise = 24;
        KeyCodec x = sealed(DECIMAL, 0);
        due("none kept", x.within(0), false);
        keepValue(x, 5, 0);
        keepValue(x, 7, 0);
        keepValue(x, 50, 1);
        keepValue(x, -5, 0);
        due("all, at first", x.within(0) && x.within(1) && x.within(2) && x.within(3), true);
        x.bounds(0, 1);
        due("its own", x.within(0), true);
        due("another", x.within(1), false);
        due("the same with another scale", x.within(2), true);
        due("one below", x.within(3), false);
        x.between(0, 0, 0, 1);
        due("not before LOW", x.within(0), true);
        due("not before HIGH", x.within(1), false);
        x.between(0, 0, 1, 0);
        due("nothing lies between", x.within(0) || x.within(1) || x.within(2) || x.within(3), false);
        x.bounds(0, 0);
        due("all", x.within(0) && x.within(1) && x.within(2) && x.within(3), true);
        due("none such", x.within(4), false);
        due("none such", x.within(-1), false);
        x.bounds(1, 1);
        x.clear();
        due("none such", x.within(0), false);
        addFields(x, INT, 0);
        x.seal();
        x.keep();
        due("LOW and HIGH stay, 128 is behind them", x.within(0), false);
        // A key that is LOW itself, and one that is HIGH itself.
        keepValue(x, 1, 0);
        x.between(0, 0, 0, 1);
        due("LOW itself", x.within(0), true);
        due("HIGH itself", x.within(1), false);
    }
}
