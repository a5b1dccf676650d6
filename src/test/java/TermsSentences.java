/** The section Terms: fields, values, their order, and the limits; KeySentences has the bytes of a key. */
final class TermsSentences extends Sentences {
    private static final String USE = "An object is used for at most 512 calls after it has been made; what later "
            + "calls answer is free.";
    private static final String LOADED = "THE LOADED tuple has, at first and whenever a schema is sealed, 0, the empty "
            + "text, scale and offset 0, nothing ABSENT.";
    private static final String FLAGS = "each of a KIND with FLAGS: 1 DOWN; 2 OPTIONAL; 4 LAST.";

    /** Sets field 0 of the loaded tuple. */
    private interface Setter {
        void set(KeyCodec x);
    }

    private TermsSentences() {
    }

    static void all() {
        use();
        section("Terms");
        fields();
        values();
        order();
        limits();
    }

    private static void use() {
        section("What it is");
        sentence(USE, TermsSentences::lastCallAnswers);
        sentence(USE, TermsSentences::manyCallsAnswer);
    }

    private static void lastCallAnswers() {
        KeyCodec x = new KeyCodec();
        x.field(INT, 0);
        x.seal();
        for (int call = 3; call <= 14; call++) {
            x.keep();
        }
        for (int call = 15; call <= 510; call++) {
            x.put(0, call, 0);
        }
        due("call 511", x.encode(), 3);
        due("call 512", x.key(2), 510 - 256);
    }

    /** Calls that can be repeated, each with the same answer from its first to the object's 512th call. */
    private static void manyCallsAnswer() {
        Call[] calls = {x -> x.field(INT, 0), x -> x.field(9, 0), KeyCodec::seal, x -> x.put(1, -LIMIT, 9),
            x -> x.put(1, 0, 10), x -> x.text(2, 5), x -> x.absent(0), x -> x.get(2, 4), KeyCodec::encode,
            x -> x.load(9, 1), x -> x.key(0), KeyCodec::decode, x -> x.take(1), KeyCodec::kept, x -> x.compare(0, 1),
            x -> x.compareKeys(1, 0), x -> x.rank(1), x -> x.shared(1), x -> x.bounds(1, 4),
            x -> x.between(0, 3, 1, 0), x -> x.bound(1, 2), x -> x.within(1)};
        for (int i = 0; i < calls.length; i++) {
            KeyCodec x = filledKinds();
            putText(x, 2, repeated(7, 10));
            Object first = answer(x, calls[i]);
            // Some 30 calls have been made up to here.
            for (int call = 0; call < 450; call++) {
                due("call " + i, answer(x, calls[i]), first);
            }
        }
    }

    private static void fields() {
        sentence("A SCHEMA has FIELDS 0, 1, .., at most 5", TermsSentences::fiveFields);
        sentence(FLAGS, TermsSentences::flagDown);
        sentence(FLAGS, TermsSentences::flagOptional);
        sentence(FLAGS, TermsSentences::flagLast);
        sentence(FLAGS, TermsSentences::lastAloneDoesNothing);
    }

    private static void fiveFields() {
        KeyCodec x = new KeyCodec();
        for (int f = 0; f < 5; f++) {
            due("field", x.field(INT, OPTIONAL), f);
        }
        due("a sixth", answer(x, y -> y.field(INT, 0)), STATE);
        x.seal();
        for (int f = 0; f < 5; f++) {
            due("put of field " + f, x.put(f, 10 + f, 0), true);
        }
        due("put of field 5", x.put(5, 1, 0), false);
        due("the tuple", tuple(x), "[[0, 10, 0], [0, 11, 0], [0, 12, 0], [0, 13, 0], [0, 14, 0]]");
        due("encode()", x.encode(), 15);
    }

    private static void flagDown() {
        for (int flags = 0; flags <= 7; flags++) {
            KeyCodec x = sealedWith(INT, flags);
            keepNumber(x, 1, 0);
            keepNumber(x, 2, 0);
            due("1 and 2 with flags " + flags, x.compare(0, 1), (flags & 1) == 0 ? -1 : 1);
        }
    }

    private static void flagOptional() {
        for (int flags = 0; flags <= 7; flags++) {
            due("absent(0) with flags " + flags, sealedWith(INT, flags).absent(0), (flags & 2) != 0);
        }
    }

    private static void flagLast() {
        for (int flags : bytes(2, 3, 6, 7)) {
            KeyCodec x = sealedWith(INT, flags);
            x.keep();
            x.absent(0);
            x.keep();
            due("0 and ABSENT with flags " + flags, x.compare(0, 1), flags >= 4 ? -1 : 1);
        }
    }

    private static void lastAloneDoesNothing() {
        dueKey(sealedWith(INT, LAST), 128);
        dueKey(sealedWith(INT, LAST | DOWN), 127);
    }

    private static void values() {
        sentence("KINDS and their VALUES: 0 INT: a long.", TermsSentences::intIsLong);
        sentence("1 DECIMAL: DIGITS, a long -LIMIT .. LIMIT, LIMIT being 10 to the 15th",
                TermsSentences::digitsHaveEnds);
        sentence("and a SCALE 0 .. 9", TermsSentences::scaleHasEnds);
        sentence("digits divided by 10 to the scale.", TermsSentences::decimalIsDivided);
        sentence("2 TEXT: 0 to 10 bytes.", TermsSentences::textHasEnds);
        sentence("3 INSTANT: SECONDS, a long -2^40 .. 2^40", TermsSentences::secondsHaveEnds);
        sentence("and an OFFSET -900 .. 900.", TermsSentences::offsetHasEnds);
        sentence("A value of an optional field may also be ABSENT.", TermsSentences::optionalMayBeAbsent);
    }

    private static void dueValue(int kind, long number, int form, boolean want) {
        KeyCodec x = sealedWith(kind, 0);
        due("put(0, " + number + ", " + form + ") of kind " + kind, x.put(0, number, form), want);
        due("what stands", value(x, 0), want ? "[0, " + number + ", " + form + "]" : "[0, 0, 0]");
    }

    private static void intIsLong() {
        dueValue(INT, Long.MAX_VALUE, 0, true);
        dueValue(INT, Long.MIN_VALUE, 0, true);
        dueValue(INT, Long.MAX_VALUE, 1, false);
        dueValue(INT, Long.MIN_VALUE, -1, false);
    }

    private static void digitsHaveEnds() {
        dueValue(DECIMAL, 1_000_000_000_000_000L, 0, true);
        dueValue(DECIMAL, 1_000_000_000_000_001L, 0, false);
        dueValue(DECIMAL, -1_000_000_000_000_000L, 0, true);
        dueValue(DECIMAL, -1_000_000_000_000_001L, 0, false);
    }

    private static void scaleHasEnds() {
        dueValue(DECIMAL, 7, 0, true);
        dueValue(DECIMAL, 7, -1, false);
        dueValue(DECIMAL, 7, 9, true);
        dueValue(DECIMAL, 7, 10, false);
    }

    private static void decimalIsDivided() {
        for (int scale = 0; scale <= 9; scale++) {
            KeyCodec x = sealedWith(DECIMAL, 0);
            long power = 1;
            for (int i = 0; i < scale; i++) {
                power *= 10;
            }
            keepNumber(x, 7, 0);
            keepNumber(x, 7 * power, scale);
            keepNumber(x, 7 * power - 1, scale);
            keepNumber(x, 7 * power + 1, scale);
            due("7 and 7 with scale " + scale, x.compare(0, 1), 0);
            due("7 and less with scale " + scale, x.compare(0, 2), 1);
            due("7 and more with scale " + scale, x.compare(0, 3), -1);
        }
    }

    private static void textHasEnds() {
        KeyCodec x = sealedWith(TEXT, 0);
        due("the empty text", x.encode(), 2);
        for (int i = 1; i <= 10; i++) {
            due("byte " + i, x.text(0, i), true);
            due("its size", x.get(0, 1), i);
            due("its key", x.encode(), i + 2);
        }
        due("byte 11", x.text(0, 11), false);
        due("its size", x.get(0, 1), 10);
        due("its key", x.encode(), 12);
    }

    private static void secondsHaveEnds() {
        dueValue(INSTANT, 1_099_511_627_776L, 0, true);
        dueValue(INSTANT, 1_099_511_627_777L, 0, false);
        dueValue(INSTANT, -1_099_511_627_776L, 0, true);
        dueValue(INSTANT, -1_099_511_627_777L, 0, false);
    }

    private static void offsetHasEnds() {
        dueValue(INSTANT, 7, 900, true);
        dueValue(INSTANT, 7, 901, false);
        dueValue(INSTANT, 7, -900, true);
        dueValue(INSTANT, 7, -901, false);
    }

    private static void optionalMayBeAbsent() {
        for (int kind = 0; kind <= 3; kind++) {
            for (int flags = 0; flags <= 7; flags++) {
                KeyCodec x = sealedWith(kind, flags);
                boolean optional = (flags & OPTIONAL) != 0;
                due("absent(0) of kind " + kind + ", flags " + flags, x.absent(0), optional);
                due("get(0, 0)", x.get(0, 0), optional ? 1 : 0);
            }
        }
    }

    private static void order() {
        sentence("ORDER of values of a field: INT as numbers", TermsSentences::intOrder);
        sentence("DECIMAL as fractions (whatever the scales)", TermsSentences::decimalOrder);
        sentence("DECIMAL as fractions (whatever the scales)", TermsSentences::equalDecimals);
        sentence("TEXT byte by byte (0 .. 255)", TermsSentences::textOrder);
        sentence("one that the other begins with before it", TermsSentences::beginningsComeBefore);
        sentence("INSTANT by seconds alone.", TermsSentences::instantOrder);
        sentence("INSTANT by seconds alone.", TermsSentences::equalInstants);
        sentence("DOWN turns it round.", TermsSentences::downTurns);
        sentence("ABSENT comes before all others", TermsSentences::absentFirst);
        sentence("if the field is LAST, behind them (DOWN or not).", TermsSentences::absentLast);
        sentence("TUPLES, a value for each field, by the first field that differs in order.",
                TermsSentences::firstDifferenceTells);
        sentence("TUPLES, a value for each field, by the first field that differs in order.",
                TermsSentences::equalFieldsArePassed);
    }

    private static Setter number(long number, int form) {
        return x -> x.put(0, number, form);
    }

    private static Setter text(int... bytes) {
        return x -> putText(x, 0, bytes);
    }

    /** The order of the two values, by compare and, if they differ in order, by their keys too. */
    private static void dueOrder(int kind, int flags, Setter a, Setter b, int want) {
        KeyCodec x = sealedWith(kind, flags);
        a.set(x);
        x.keep();
        String first = value(x, 0).toString();
        b.set(x);
        x.keep();
        String pair = first + " and " + value(x, 0) + " of kind " + kind + ", flags " + flags;
        due("compare of " + pair, x.compare(0, 1), want);
        due("compare turned of " + pair, x.compare(1, 0), -want);
        if (want != 0) {
            due("compareKeys of " + pair, x.compareKeys(0, 1), want);
        }
    }

    private static void dueAscending(int kind, int flags, int want, Setter... values) {
        for (int i = 0; i < values.length; i++) {
            dueOrder(kind, flags, values[i], values[i], 0);
            for (int j = i + 1; j < values.length; j++) {
                dueOrder(kind, flags, values[i], values[j], want);
            }
        }
    }

    private static Setter[] ascendingInts() {
        long[] values = {Long.MIN_VALUE, Long.MIN_VALUE + 1, -(1L << 56) - 1, -(1L << 56), -65537, -65536, -257, -256,
            -255, -2, -1, 0, 1, 2, 254, 255, 256, 65535, 65536, (1L << 56) - 1, 1L << 56, Long.MAX_VALUE - 1,
            Long.MAX_VALUE};
        Setter[] setters = new Setter[values.length];
        for (int i = 0; i < values.length; i++) {
            setters[i] = number(values[i], 0);
        }
        return setters;
    }

    private static Setter[] ascendingDecimals() {
        return new Setter[] {number(-LIMIT, 0), number(1 - LIMIT, 0), number(-LIMIT, 1), number(-101, 0),
            number(-11, 0), number(-101, 1), number(-10, 0), number(-99, 1), number(-9, 0), number(-11, 1),
            number(-1, 0), number(-2, 9), number(-1, 9), number(0, 5), number(1, 9), number(2, 9), number(11, 9),
            number(1, 0), number(11, 1), number(9, 0), number(99, 1), number(100, 1), number(101, 1), number(11, 0),
            number(LIMIT, 2), number(LIMIT - 1, 0), number(LIMIT, 0)};
    }

    private static Setter[] ascendingTexts() {
        return new Setter[] {text(), text(0), text(0, 0), text(0, 1), text(0, 255), text(1), text(1, 0), text(1, 255),
            text(2), text(127), text(128), text(254, 255), text(255), text(255, 0), text(255, 255),
            text(repeated(255, 9)), text(repeated(255, 10))};
    }

    private static Setter[] ascendingInstants() {
        return new Setter[] {number(-FAR, 900), number(1 - FAR, -900), number(-257, 0), number(-256, 0),
            number(-1, 900), number(0, 0), number(1, -900), number(255, 3), number(256, -3), number(FAR - 1, 900),
            number(FAR, -900)};
    }

    private static void intOrder() {
        dueAscending(INT, 0, -1, ascendingInts());
    }

    private static void decimalOrder() {
        dueAscending(DECIMAL, 0, -1, ascendingDecimals());
    }

    private static void equalDecimals() {
        for (int flags : bytes(0, DOWN, OPTIONAL)) {
            dueOrder(DECIMAL, flags, number(15, 1), number(150, 2), 0);
            dueOrder(DECIMAL, flags, number(-15, 1), number(-1500000000, 9), 0);
            dueOrder(DECIMAL, flags, number(0, 0), number(0, 9), 0);
            dueOrder(DECIMAL, flags, number(LIMIT, 9), number(LIMIT / 1_000_000_000, 0), 0);
            dueOrder(DECIMAL, flags, number(-LIMIT, 1), number(-LIMIT / 10, 0), 0);
        }
    }

    private static void textOrder() {
        dueAscending(TEXT, 0, -1, ascendingTexts());
        for (int b = 0; b < 255; b++) {
            dueOrder(TEXT, 0, text(b), text(b + 1), -1);
            dueOrder(TEXT, 0, text(b, 255), text(b + 1), -1);
        }
    }

    private static void beginningsComeBefore() {
        for (int b : bytes(0, 1, 2, 127, 128, 254, 255)) {
            for (int size = 0; size < 10; size++) {
                dueOrder(TEXT, 0, text(repeated(b, size)), text(repeated(b, size + 1)), -1);
            }
        }
        dueOrder(TEXT, 0, text(97), text(97, 0), -1);
        dueOrder(TEXT, 0, text(97, 0), text(97, 0, 0), -1);
    }

    private static void instantOrder() {
        dueAscending(INSTANT, 0, -1, ascendingInstants());
    }

    private static void equalInstants() {
        for (int flags : bytes(0, DOWN, OPTIONAL)) {
            dueOrder(INSTANT, flags, number(5, 900), number(5, -900), 0);
            dueOrder(INSTANT, flags, number(FAR, -1), number(FAR, 0), 0);
            dueOrder(INSTANT, flags, number(-FAR, 1), number(-FAR, 0), 0);
        }
    }

    private static void downTurns() {
        dueAscending(INT, DOWN, 1, ascendingInts());
        dueAscending(DECIMAL, DOWN, 1, ascendingDecimals());
        dueAscending(TEXT, DOWN, 1, ascendingTexts());
        dueAscending(INSTANT, DOWN, 1, ascendingInstants());
    }

    private static void dueAbsent(int flags, int want) {
        Setter absent = x -> x.absent(0);
        Setter[][] values = {ascendingInts(), ascendingDecimals(), ascendingTexts(), ascendingInstants()};
        for (int kind = 0; kind <= 3; kind++) {
            dueOrder(kind, flags, absent, absent, 0);
            for (Setter value : values[kind]) {
                dueOrder(kind, flags, absent, value, want);
            }
        }
    }

    private static void absentFirst() {
        dueAbsent(OPTIONAL, -1);
        dueAbsent(OPTIONAL | DOWN, -1);
    }

    private static void absentLast() {
        dueAbsent(OPTIONAL | LAST, 1);
        dueAbsent(OPTIONAL | LAST | DOWN, 1);
    }

    private static KeyCodec withTwoTuples(int[] schema, long[] a, long[] b) {
        KeyCodec x = sealedWith(schema);
        for (long[] tuple : new long[][] {a, b}) {
            for (int f = 0; f < tuple.length; f++) {
                x.put(f, tuple[f], 0);
            }
            x.keep();
        }
        return x;
    }

    private static void firstDifferenceTells() {
        int[] up = {INT, 0, INT, 0, INT, 0, INT, 0, INT, 0};
        int[] mixed = {INT, DOWN, INT, OPTIONAL, INT, DOWN | OPTIONAL, INT, 0, INT, DOWN};
        boolean[] down = {true, false, true, false, true};
        for (int f = 0; f < 5; f++) {
            long[] a = {7, 7, 7, 7, 7};
            long[] b = {7, 7, 7, 7, 7};
            for (int behind = f; behind < 5; behind++) {
                a[behind] = behind == f ? 300 : 1;
                b[behind] = behind == f ? 255 : 900;
            }
            due("the first that differs is " + f, withTwoTuples(up, a, b).compare(0, 1), 1);
            due("the first that differs is " + f, withTwoTuples(mixed, a, b).compare(0, 1), down[f] ? -1 : 1);
            due("the same by keys", withTwoTuples(mixed, a, b).compareKeys(0, 1), down[f] ? -1 : 1);
        }
    }

    private static void equalFieldsArePassed() {
        KeyCodec x = sealedWith(DECIMAL, 0, INSTANT, 0, TEXT, OPTIONAL, INT, 0);
        x.put(0, 15, 1);
        x.put(1, 5, 900);
        x.absent(2);
        x.put(3, 2, 0);
        x.keep();
        x.put(0, 150, 2);
        x.put(1, 5, -900);
        x.put(3, 1, 0);
        x.keep();
        due("other scales and offsets, then 2 and 1", x.compare(0, 1), 1);
        x.put(3, 2, 0);
        x.keep();
        due("other scales and offsets alone", x.compare(0, 2), 0);
    }

    private static void limits() {
        sentence(LOADED, TermsSentences::tupleAtFirst);
        sentence(LOADED, TermsSentences::tupleOfALaterSchema);
        sentence(LOADED, TermsSentences::eachPlaceOfALaterSchema);
        sentence("THE KEY ROW has at most 120 bytes, at first none.", TermsSentences::keyRowHasEnds);
        sentence("At most 12 tuples are KEPT, numbered 0, 1, ..", TermsSentences::twelveAreKept);
        sentence("The constants: NONE = -1: Nothing there.", TermsSentences::noneIsMinusOne);
    }

    private static void tupleAtFirst() {
        for (int flags = 0; flags <= 7; flags++) {
            KeyCodec x = sealedWith(INT, flags, DECIMAL, flags, TEXT, flags, INSTANT, flags, TEXT, flags);
            due("the tuple", tuple(x), "[[0, 0, 0], [0, 0, 0], [0, 0, 0], [0, 0, 0], [0, 0, 0]]");
            due("keep()", x.keep(), 0);
        }
    }

    private static void tupleOfALaterSchema() {
        KeyCodec x = sealedWith(TEXT, OPTIONAL, INSTANT, OPTIONAL, DECIMAL, OPTIONAL, INT, OPTIONAL);
        putText(x, 0, 1, 2, 3);
        x.put(1, 5, 6);
        x.put(2, 7, 8);
        x.absent(3);
        x.clear();
        for (int kind = 0; kind <= 3; kind++) {
            x.field(kind, OPTIONAL);
        }
        x.field(TEXT, OPTIONAL);
        x.seal();
        due("the tuple", tuple(x), "[[0, 0, 0], [0, 0, 0], [0, 0, 0], [0, 0, 0], [0, 0, 0]]");
        dueKey(x, 1, 128, 1, 2, 1, 0, 1, 1, 128, 1, 0, 1, 0, 3, 232);
    }

    private static void eachPlaceOfALaterSchema() {
        for (int before = INT; before <= INSTANT; before++) {
            for (int kind = INT; kind <= INSTANT; kind++) {
                KeyCodec x = sealedWith(fiveOf(before));
                for (int f = 0; f < 5; f++) {
                    setAny(x, f, before);
                }
                x.clear();
                for (int f = 0; f < 5; f++) {
                    x.field(kind, 0);
                }
                x.seal();
                due("the tuple", tuple(x), "[[0, 0, 0], [0, 0, 0], [0, 0, 0], [0, 0, 0], [0, 0, 0]]");
            }
        }
    }

    private static void keyRowHasEnds() {
        KeyCodec x = new KeyCodec();
        due("at first", x.key(-1), 0);
        for (int i = 0; i < 120; i++) {
            due("byte " + i, x.load(1, i), true);
        }
        due("it has", x.key(-1), 120);
        due("a byte more", x.load(1, 1), false);
        due("it has", x.key(-1), 120);
    }

    private static void twelveAreKept() {
        KeyCodec x = sealedWith(INT, 0);
        for (int i = 0; i < 12; i++) {
            due("keep()", x.keep(), i);
        }
        due("one more", answer(x, KeyCodec::keep), STATE);
        due("kept()", x.kept(), 12);
    }

    private static void noneIsMinusOne() {
        due("NONE", KeyCodec.NONE, -1);
        due("nothing there", new KeyCodec().key(0), KeyCodec.NONE);
    }
}
