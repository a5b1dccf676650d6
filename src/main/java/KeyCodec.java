/**
 * Keys for tuples of typed fields: rows of bytes whose plain order is that of the tuples, that can be
 * read back, and none of which begins another one.
 */
public final class KeyCodec {
    public static final int NONE = -1;

    private static final int NOT_COMPARABLE = -2;

    private static final int MOST_FIELDS = 5;
    private static final int MOST_KEPT = 12;
    private static final int ROW_ROOM = 120;
    private static final int TEXT_ROOM = 10;

    private static final int INT = 0;
    private static final int DECIMAL = 1;
    private static final int TEXT = 2;
    private static final int INSTANT = 3;

    private static final int DOWN = 1;
    private static final int OPTIONAL = 2;
    private static final int LAST = 4;
    private static final int ALL_FLAGS = DOWN | OPTIONAL | LAST;

    private static final long LIMIT = 1_000_000_000_000_000L;
    private static final int MOST_DIGITS = 16;
    private static final int MOST_SCALE = 9;
    private static final long MOST_SECONDS = 1L << 40;
    private static final int MOST_OFFSET = 900;

    private static final int ABSENT_FIRST_MARK = 0;
    private static final int PRESENT_MARK = 1;
    private static final int ABSENT_LAST_MARK = 2;
    private static final int NEGATIVE_INT_MARK = 127;
    private static final int POSITIVE_INT_MARK = 128;
    private static final int NEGATIVE_MARK = 1;
    private static final int ZERO_MARK = 2;
    private static final int POSITIVE_MARK = 3;
    private static final int EXPONENT_SHIFT = 64;
    private static final int OFFSET_SHIFT = 1000;
    private static final int BYTE = 255;

    private final Schema schema = new Schema();
    private final Tuple loaded = new Tuple();
    private final Tuple scratch = new Tuple();
    private final Row keyRow = new Row();
    private final Row left = new Row();
    private final Row right = new Row();
    private final Tuple[] keptTuples = new Tuple[MOST_KEPT];
    private final Row[] keptKeys = new Row[MOST_KEPT];
    private int keptCount = 0;
    private final Row low = new Row();
    private final Row high = new Row();
    private boolean highEnds = false;

    public KeyCodec() {
        for (int i = 0; i < MOST_KEPT; i++) {
            keptTuples[i] = new Tuple();
            keptKeys[i] = new Row();
        }
    }

    public int field(int kind, int flags) throws IllegalArgumentException, IllegalStateException {
        if (kind < INT || kind > INSTANT || flags < 0 || flags > ALL_FLAGS) {
            throw new IllegalArgumentException("no such kind or flags");
        }
        if (schema.closed || schema.count >= MOST_FIELDS) {
            throw new IllegalStateException("the schema takes no field more");
        }
        return schema.append(kind, flags);
    }

    public boolean seal() {
        if (schema.closed || schema.count == 0) {
            return false;
        }
        schema.closed = true;
        loaded.reset();
        return true;
    }

    public void clear() {
        schema.reset();
        loaded.reset();
        keyRow.empty();
        keptCount = 0;
    }

    public boolean put(int field, long value, int form) {
        if (!schema.isUsable(field) || !schema.allows(field, value, form)) {
            return false;
        }
        loaded.values[field].become(value, form);
        return true;
    }

    public boolean text(int field, int b) {
        return schema.isUsable(field) && schema.kinds[field] == TEXT && loaded.values[field].append(b);
    }

    public boolean absent(int field) {
        if (!schema.isUsable(field) || !schema.has(field, OPTIONAL)) {
            return false;
        }
        loaded.values[field].vanish();
        return true;
    }

    public long get(int field, int what) {
        if (!schema.isUsable(field) || what < 0) {
            return NONE;
        }
        Value value = loaded.values[field];
        switch (what) {
            case 0:
                return value.missing ? 1 : 0;
            case 1:
                return schema.kinds[field] == TEXT ? value.size : value.number;
            case 2:
                return value.form;
            default:
                return value.byteAt(what - 3);
        }
    }

    public int encode() throws IllegalStateException {
        if (!schema.closed) {
            throw new IllegalStateException("the schema is open");
        }
        KeyWriter.writeKey(schema, loaded, keyRow);
        return keyRow.size;
    }

    public boolean load(int n, long bytes) {
        if (n < 1 || n > 8 || !keyRow.hasRoomFor(n)) {
            return false;
        }
        keyRow.appendLowest(n, bytes, 0);
        return true;
    }

    public void clearKey() {
        keyRow.empty();
    }

    public int key(int k) {
        return k == -1 ? keyRow.size : keyRow.byteAt(k);
    }

    public boolean decode() throws IllegalStateException, IllegalArgumentException {
        if (!schema.closed) {
            throw new IllegalStateException("the schema is open");
        }
        boolean sound = new KeyReader(schema, keyRow).readTuple(scratch);
        if (sound) {
            // The reader lets pass what no tuple has (a number longer than it needs, bytes left over):
            // only the key written anew tells.
            KeyWriter.writeKey(schema, scratch, left);
            sound = left.orderAgainst(keyRow) == 0;
        }
        if (!sound) {
            throw new IllegalArgumentException("no tuple has this key");
        }
        loaded.become(scratch);
        return true;
    }

    public int keep() throws IllegalStateException {
        if (!schema.closed || keptCount >= MOST_KEPT) {
            throw new IllegalStateException("the schema is open, or no tuple more can be kept");
        }
        int number = keptCount;
        keptTuples[number].become(loaded);
        KeyWriter.writeKey(schema, loaded, keptKeys[number]);
        keptCount++;
        return number;
    }

    public boolean take(int tuple) {
        if (!isKept(tuple)) {
            return false;
        }
        loaded.become(keptTuples[tuple]);
        return true;
    }

    public int kept() {
        return keptCount;
    }

    public int compare(int a, int b) {
        if (!isKept(a) || !isKept(b)) {
            return NOT_COMPARABLE;
        }
        // The bytes before the tail are in the tuples' order, and no field's bytes begin another's.
        writeStart(a, schema.count, left);
        writeStart(b, schema.count, right);
        return left.orderAgainst(right);
    }

    public int compareKeys(int a, int b) {
        if (!isKept(a) || !isKept(b)) {
            return NOT_COMPARABLE;
        }
        return keptKeys[a].orderAgainst(keptKeys[b]);
    }

    public int rank(int tuple) {
        return isKept(tuple) ? countBefore(tuple) : NONE;
    }

    public int shared(int r) {
        if (r < 0 || r >= keptCount) {
            return NONE;
        }
        if (r == 0) {
            return 0;
        }
        return keptKeys[withRank(r)].sharedWith(keptKeys[withRank(r - 1)]);
    }

    public boolean bounds(int tuple, int k) {
        if (!isKept(tuple) || k < 0 || k > schema.count) {
            return false;
        }
        writeStart(tuple, k, low);
        highEnds = high.becomeEndOf(low);
        return true;
    }

    public boolean between(int n, int k, int a, int b) {
        if (!isKept(n) || !isKept(a) || !isKept(b) || k < 0 || k >= schema.count) {
            return false;
        }
        writeStart(n, k, low);
        KeyWriter.writeField(schema, keptTuples[a], k, low);
        writeStart(n, k, high);
        KeyWriter.writeField(schema, keptTuples[b], k, high);
        highEnds = true;
        return true;
    }

    public int bound(int how, int j) {
        if (how != 0 && (how != 1 || !highEnds)) {
            return NONE;
        }
        Row row = how == 0 ? low : high;
        return j == -1 ? row.size : row.byteAt(j);
    }

    public boolean within(int tuple) {
        if (!isKept(tuple)) {
            return false;
        }
        Row own = keptKeys[tuple];
        return own.orderAgainst(low) >= 0 && (!highEnds || own.orderAgainst(high) < 0);
    }

    private boolean isKept(int tuple) {
        return tuple >= 0 && tuple < keptCount;
    }

    private void writeStart(int tuple, int fields, Row out) {
        out.empty();
        KeyWriter.writeFields(schema, keptTuples[tuple], fields, out);
    }

    private int countBefore(int tuple) {
        int before = 0;
        for (int i = 0; i < keptCount; i++) {
            int order = keptKeys[i].orderAgainst(keptKeys[tuple]);
            if (order < 0 || (order == 0 && i < tuple)) {
                before++;
            }
        }
        return before;
    }

    private int withRank(int r) {
        for (int i = 0; i < keptCount; i++) {
            if (countBefore(i) == r) {
                return i;
            }
        }
        // Not reached: each rank below keptCount is that of one tuple.
        return 0;
    }

    /** A row of bytes, each 0 .. 255. */
    private static final class Row {
        final int[] bytes = new int[ROW_ROOM];
        int size = 0;

        void empty() {
            size = 0;
        }

        boolean hasRoomFor(int n) {
            return n <= ROW_ROOM - size;
        }

        void append(int b) {
            if (size < ROW_ROOM) {
                bytes[size] = b & BYTE;
                size++;
            }
        }

        void appendLowest(int n, long number, int turn) {
            for (int i = n - 1; i >= 0; i--) {
                append((int) (number >>> (8 * i)) ^ turn);
            }
        }

        int byteAt(int i) {
            return i >= 0 && i < size ? bytes[i] : NONE;
        }

        int sharedWith(Row other) {
            int most = Math.min(size, other.size);
            for (int i = 0; i < most; i++) {
                if (bytes[i] != other.bytes[i]) {
                    return i;
                }
            }
            return most;
        }

        int orderAgainst(Row other) {
            int i = sharedWith(other);
            // NONE is below every byte, so a row that ends here comes before one that goes on.
            return Integer.compare(byteAt(i), other.byteAt(i));
        }

        /** The least row behind all that begin with start; false if there is none. */
        boolean becomeEndOf(Row start) {
            size = 0;
            for (int i = start.size - 1; i >= 0; i--) {
                if (start.bytes[i] < BYTE) {
                    System.arraycopy(start.bytes, 0, bytes, 0, i);
                    bytes[i] = start.bytes[i] + 1;
                    size = i + 1;
                    return true;
                }
            }
            return false;
        }
    }

    /** A field's value: a number with a form (scale or offset), or a text's bytes. */
    private static final class Value {
        boolean missing = false;
        long number = 0;
        int form = 0;
        final int[] bytes = new int[TEXT_ROOM];
        int size = 0;

        void become(long newNumber, int newForm) {
            missing = false;
            number = newNumber;
            form = newForm;
            size = 0;
        }

        void vanish() {
            become(0, 0);
            missing = true;
        }

        boolean append(int b) {
            if (size >= TEXT_ROOM) {
                return false;
            }
            bytes[size] = b & BYTE;
            size++;
            missing = false;
            return true;
        }

        int byteAt(int i) {
            return i >= 0 && i < size ? bytes[i] : NONE;
        }

        void copy(Value other) {
            missing = other.missing;
            number = other.number;
            form = other.form;
            size = other.size;
            System.arraycopy(other.bytes, 0, bytes, 0, TEXT_ROOM);
        }
    }

    /** A value for each field that a schema can have. */
    private static final class Tuple {
        final Value[] values = new Value[MOST_FIELDS];

        Tuple() {
            for (int i = 0; i < MOST_FIELDS; i++) {
                values[i] = new Value();
            }
        }

        void reset() {
            for (int i = 0; i < MOST_FIELDS; i++) {
                values[i].become(0, 0);
            }
        }

        void become(Tuple other) {
            for (int i = 0; i < MOST_FIELDS; i++) {
                values[i].copy(other.values[i]);
            }
        }
    }

    /** The fields' kinds and flags, and what they allow. */
    private static final class Schema {
        final int[] kinds = new int[MOST_FIELDS];
        final int[] flags = new int[MOST_FIELDS];
        int count = 0;
        boolean closed = false;

        void reset() {
            count = 0;
            closed = false;
        }

        int append(int kind, int flagSet) {
            if (count >= MOST_FIELDS) {
                return NONE;
            }
            kinds[count] = kind;
            flags[count] = flagSet;
            count++;
            return count - 1;
        }

        boolean isUsable(int f) {
            return closed && f >= 0 && f < count;
        }

        boolean has(int f, int flag) {
            return (flags[f] & flag) != 0;
        }

        /** What turns a byte of the field's value: 255 less a byte is that byte with all bits turned. */
        int turnOf(int f) {
            return has(f, DOWN) ? BYTE : 0;
        }

        int absentMark(int f) {
            return has(f, LAST) ? ABSENT_LAST_MARK : ABSENT_FIRST_MARK;
        }

        boolean allows(int f, long number, int form) {
            switch (kinds[f]) {
                case INT:
                    return form == 0;
                case DECIMAL:
                    return number >= -LIMIT && number <= LIMIT && form >= 0 && form <= MOST_SCALE;
                case TEXT:
                    return number == 0 && form == 0;
                default:
                    return number >= -MOST_SECONDS && number <= MOST_SECONDS
                            && form >= -MOST_OFFSET && form <= MOST_OFFSET;
            }
        }
    }

    /** Writes tuples as keys. */
    private static final class KeyWriter {
        private KeyWriter() {
        }

        static void writeKey(Schema schema, Tuple tuple, Row out) {
            out.empty();
            writeFields(schema, tuple, schema.count, out);
            writeTail(schema, tuple, out);
        }

        static void writeFields(Schema schema, Tuple tuple, int fields, Row out) {
            for (int f = 0; f < fields && f < schema.count; f++) {
                writeField(schema, tuple, f, out);
            }
        }

        static void writeField(Schema schema, Tuple tuple, int f, Row out) {
            Value value = tuple.values[f];
            if (schema.has(f, OPTIONAL)) {
                out.append(value.missing ? schema.absentMark(f) : PRESENT_MARK);
            }
            if (value.missing) {
                return;
            }
            int turn = schema.turnOf(f);
            switch (schema.kinds[f]) {
                case DECIMAL:
                    writeDecimal(value.number, value.form, turn, out);
                    break;
                case TEXT:
                    writeText(value, turn, out);
                    break;
                default:
                    writeInt(value.number, turn, out);
                    break;
            }
        }

        static void writeInt(long number, int turn, Row out) {
            int n = bytesNeeded(number < 0 ? -1 - number : number);
            out.append((number < 0 ? NEGATIVE_INT_MARK - n : POSITIVE_INT_MARK + n) ^ turn);
            out.appendLowest(n, number, turn);
        }

        static int bytesNeeded(long number) {
            int n = 0;
            while (n < 8 && number >>> (8 * n) != 0) {
                n++;
            }
            return n;
        }

        static void writeText(Value value, int turn, Row out) {
            for (int i = 0; i < value.size && i < TEXT_ROOM; i++) {
                out.append(value.bytes[i] ^ turn);
                if (value.bytes[i] == 0) {
                    out.append(BYTE ^ turn);
                }
            }
            out.append(0 ^ turn);
            out.append(1 ^ turn);
        }

        static void writeDecimal(long digits, int scale, int turn, Row out) {
            if (digits == 0) {
                out.append(ZERO_MARK ^ turn);
                return;
            }
            out.append((digits < 0 ? NEGATIVE_MARK : POSITIVE_MARK) ^ turn);
            writeFraction(Math.abs(digits), scale, digits < 0 ? turn ^ BYTE : turn, out);
        }

        static void writeFraction(long digits, int scale, int turn, Row out) {
            int length = 1;
            long top = 1;
            while (length < MOST_DIGITS && digits / top >= 10) {
                top *= 10;
                length++;
            }
            out.append((length - scale + EXPONENT_SHIFT) ^ turn);
            long rest = digits;
            // It ends with the last digit that is not 0: what is left is 0 then.
            for (long unit = top; unit > 0 && rest > 0; unit /= 10) {
                out.append((int) (rest / unit + 1) ^ turn);
                rest %= unit;
            }
            out.append(0 ^ turn);
        }

        static void writeTail(Schema schema, Tuple tuple, Row out) {
            for (int f = 0; f < schema.count; f++) {
                Value value = tuple.values[f];
                if (value.missing) {
                    continue;
                }
                if (schema.kinds[f] == DECIMAL) {
                    out.append(value.form);
                } else if (schema.kinds[f] == INSTANT) {
                    out.appendLowest(2, value.form + OFFSET_SHIFT, 0);
                }
            }
        }
    }

    /**
     * Reads a row as a tuple of the schema: the right one if the row is a key. Some rows that are no keys
     * are read too.
     */
    private static final class KeyReader {
        private final Schema schema;
        private final Row row;
        private int position = 0;
        private int turn = 0;
        /** The power of ten that a DECIMAL's digits are to be multiplied with: the scale comes later. */
        private final int[] powers = new int[MOST_FIELDS];

        KeyReader(Schema schema, Row row) {
            this.schema = schema;
            this.row = row;
        }

        boolean readTuple(Tuple into) {
            into.reset();
            for (int f = 0; f < schema.count; f++) {
                if (!readField(f, into.values[f])) {
                    return false;
                }
            }
            turn = 0;
            for (int f = 0; f < schema.count; f++) {
                if (!into.values[f].missing && !readForm(f, into.values[f])) {
                    return false;
                }
            }
            return true;
        }

        private int next() {
            int b = row.byteAt(position);
            if (b == NONE) {
                return NONE;
            }
            position++;
            return b ^ turn;
        }

        private boolean readField(int f, Value into) {
            if (schema.has(f, OPTIONAL)) {
                turn = 0;
                int mark = next();
                if (mark == schema.absentMark(f)) {
                    into.vanish();
                    return true;
                }
                if (mark != PRESENT_MARK) {
                    return false;
                }
            }
            turn = schema.turnOf(f);
            switch (schema.kinds[f]) {
                case DECIMAL:
                    return readDecimal(f, into);
                case TEXT:
                    return readText(into);
                default:
                    return readInt(into);
            }
        }

        private boolean readInt(Value into) {
            int mark = next();
            boolean negative = mark <= NEGATIVE_INT_MARK;
            int n = negative ? NEGATIVE_INT_MARK - mark : mark - POSITIVE_INT_MARK;
            if (mark == NONE || n > 8) {
                return false;
            }
            long number = negative ? -1 : 0;
            for (int i = 0; i < n; i++) {
                int b = next();
                if (b == NONE) {
                    return false;
                }
                number = (number << 8) | b;
            }
            into.become(number, 0);
            return true;
        }

        private boolean readText(Value into) {
            into.become(0, 0);
            for (int i = 0; i <= TEXT_ROOM; i++) {
                int b = next();
                if (b == NONE) {
                    return false;
                }
                if (b == 0) {
                    int behind = next();
                    if (behind != BYTE) {
                        return behind == 1;
                    }
                }
                if (!into.append(b)) {
                    return false;
                }
            }
            return false;
        }

        private boolean readDecimal(int f, Value into) {
            powers[f] = 0;
            into.become(0, 0);
            int mark = next();
            if (mark == ZERO_MARK) {
                return true;
            }
            if (mark != NEGATIVE_MARK && mark != POSITIVE_MARK) {
                return false;
            }
            if (mark == POSITIVE_MARK) {
                return readFraction(f, 1, into);
            }
            turn ^= BYTE;
            return readFraction(f, -1, into);
        }

        private boolean readFraction(int f, int sign, Value into) {
            int exponent = next();
            if (exponent == NONE) {
                return false;
            }
            long digits = 0;
            for (int i = 0; i <= MOST_DIGITS; i++) {
                int b = next();
                if (b < 0 || b > 10) {
                    return false;
                }
                if (b == 0) {
                    powers[f] = exponent - EXPONENT_SHIFT - i;
                    into.become(sign * digits, 0);
                    return true;
                }
                digits = digits * 10 + b - 1;
            }
            return false;
        }

        private boolean readForm(int f, Value into) {
            if (schema.kinds[f] == DECIMAL) {
                return readScale(f, into);
            }
            if (schema.kinds[f] == INSTANT) {
                return readOffset(f, into);
            }
            return true;
        }

        private boolean readScale(int f, Value into) {
            int scale = next();
            int power = powers[f] + scale;
            if (scale == NONE || power < 0) {
                return false;
            }
            long digits = into.number;
            for (int i = 0; i < power; i++) {
                if (Math.abs(digits) > LIMIT) {
                    return false;
                }
                digits *= 10;
            }
            into.become(digits, scale);
            return schema.allows(f, digits, scale);
        }

        private boolean readOffset(int f, Value into) {
            int higher = next();
            int lower = next();
            if (higher == NONE || lower == NONE) {
                return false;
            }
            into.become(into.number, higher * 256 + lower - OFFSET_SHIFT);
            return schema.allows(f, into.number, into.form);
        }
    }
}
