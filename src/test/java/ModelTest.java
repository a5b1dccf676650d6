import java.math.BigDecimal;
import java.math.BigInteger;
import java.util.ArrayList;
import java.util.Arrays;
import java.util.List;

/**
 * Long mixed runs of calls against a second, plain writing of the document: values are compared as values
 * (never by their bytes), keys are lists of bytes made by way of BigInteger and BigDecimal.
 * The runs are the same every time.
 */
public final class ModelTest {
    private static final int RUNS = 3000;
    private static final int CALLS = 512;
    private static final long LIMIT = 1_000_000_000_000_000L;
    private static final long FAR = 1L << 40;

    private static int wrong = 0;
    private static long seed = 20261115;

    private static int pick(int n) {
        seed = seed * 6364136223846793005L + 1442695040888963407L;
        return (int) ((seed >>> 33) % n);
    }

    /** A field's value. */
    private static final class Value {
        boolean absent;
        long number;
        int form;
        List<Integer> text = new ArrayList<>();

        Value copy() {
            Value v = new Value();
            v.absent = absent;
            v.number = number;
            v.form = form;
            v.text = new ArrayList<>(text);
            return v;
        }

        BigDecimal fraction() {
            return BigDecimal.valueOf(number, form);
        }
    }

    /** The document, written a second time. */
    private static final class Model {
        final List<int[]> fields = new ArrayList<>();
        boolean sealed;
        List<Value> loaded = new ArrayList<>();
        List<Integer> keyRow = new ArrayList<>();
        final List<List<Value>> kept = new ArrayList<>();
        List<Integer> low = new ArrayList<>();
        List<Integer> high = null;

        int kind(int f) {
            return fields.get(f)[0];
        }

        boolean flag(int f, int bit) {
            return (fields.get(f)[1] & bit) != 0;
        }

        Object field(int kind, int flags) {
            if (kind < 0 || kind > 3 || (flags & ~7) != 0) {
                return "IllegalArgumentException";
            }
            if (sealed || fields.size() == 5) {
                return "IllegalStateException";
            }
            fields.add(new int[] {kind, flags});
            return fields.size() - 1;
        }

        Object seal() {
            if (sealed || fields.isEmpty()) {
                return false;
            }
            sealed = true;
            loaded = new ArrayList<>();
            for (int i = 0; i < fields.size(); i++) {
                loaded.add(new Value());
            }
            return true;
        }

        void clear() {
            fields.clear();
            sealed = false;
            loaded = new ArrayList<>();
            keyRow.clear();
            kept.clear();
        }

        boolean hasField(int f) {
            return sealed && f >= 0 && f < fields.size();
        }

        boolean isValue(int f, long number, int form) {
            BigInteger size = BigInteger.valueOf(number).abs();
            switch (kind(f)) {
                case 0:
                    return form == 0;
                case 1:
                    return size.compareTo(BigInteger.TEN.pow(15)) <= 0 && form >= 0 && form <= 9;
                case 2:
                    return number == 0 && form == 0;
                default:
                    return size.compareTo(BigInteger.TWO.pow(40)) <= 0 && form >= -900 && form <= 900;
            }
        }

        Object put(int f, long number, int form) {
            if (!hasField(f) || !isValue(f, number, form)) {
                return false;
            }
            Value v = new Value();
            v.number = number;
            v.form = form;
            loaded.set(f, v);
            return true;
        }

        Object text(int f, int b) {
            if (!hasField(f) || kind(f) != 2) {
                return false;
            }
            Value v = loaded.get(f);
            if (v.absent) {
                v = new Value();
                loaded.set(f, v);
            }
            if (v.text.size() == 10) {
                return false;
            }
            v.text.add(b & 255);
            return true;
        }

        Object absent(int f) {
            if (!hasField(f) || !flag(f, 2)) {
                return false;
            }
            Value v = new Value();
            v.absent = true;
            loaded.set(f, v);
            return true;
        }

        Object get(int f, int what) {
            if (!hasField(f) || what < 0) {
                return -1;
            }
            Value v = loaded.get(f);
            if (what == 0) {
                return v.absent ? 1 : 0;
            }
            if (what >= 3) {
                return what - 3 < v.text.size() ? v.text.get(what - 3) : -1;
            }
            if (what == 1) {
                return kind(f) == 2 ? v.text.size() : v.number;
            }
            return v.form;
        }

        List<Integer> intBytes(long number) {
            List<Integer> out = new ArrayList<>();
            BigInteger size = number < 0 ? BigInteger.valueOf(number).not() : BigInteger.valueOf(number);
            int n = (size.bitLength() + 7) / 8;
            out.add(number < 0 ? 127 - n : 128 + n);
            BigInteger lowest = BigInteger.valueOf(number).mod(BigInteger.TWO.pow(8 * n));
            for (int i = n - 1; i >= 0; i--) {
                out.add(lowest.shiftRight(8 * i).mod(BigInteger.valueOf(256)).intValue());
            }
            return out;
        }

        List<Integer> decimalBytes(BigDecimal fraction) {
            if (fraction.signum() == 0) {
                return List.of(2);
            }
            BigDecimal plain = fraction.abs().stripTrailingZeros();
            String digits = plain.unscaledValue().toString();
            List<Integer> behind = new ArrayList<>();
            behind.add(digits.length() - plain.scale() + 64);
            for (char c : digits.toCharArray()) {
                behind.add(c - '0' + 1);
            }
            behind.add(0);
            if (fraction.signum() < 0) {
                behind.replaceAll(b -> 255 - b);
            }
            behind.add(0, fraction.signum() < 0 ? 1 : 3);
            return behind;
        }

        List<Integer> textBytes(List<Integer> text) {
            List<Integer> out = new ArrayList<>();
            for (int b : text) {
                out.add(b);
                if (b == 0) {
                    out.add(255);
                }
            }
            out.add(0);
            out.add(1);
            return out;
        }

        List<Integer> fieldBytes(List<Value> tuple, int f) {
            Value v = tuple.get(f);
            List<Integer> out = new ArrayList<>();
            if (flag(f, 2)) {
                out.add(!v.absent ? 1 : flag(f, 4) ? 2 : 0);
            }
            if (v.absent) {
                return out;
            }
            List<Integer> bytes = new ArrayList<>(kind(f) == 1 ? decimalBytes(v.fraction())
                    : kind(f) == 2 ? textBytes(v.text) : intBytes(v.number));
            if (flag(f, 1)) {
                bytes.replaceAll(b -> 255 - b);
            }
            out.addAll(bytes);
            return out;
        }

        List<Integer> startOf(List<Value> tuple, int k) {
            List<Integer> out = new ArrayList<>();
            for (int f = 0; f < k; f++) {
                out.addAll(fieldBytes(tuple, f));
            }
            return out;
        }

        List<Integer> keyOf(List<Value> tuple) {
            List<Integer> out = startOf(tuple, fields.size());
            for (int f = 0; f < fields.size(); f++) {
                Value v = tuple.get(f);
                if (!v.absent && kind(f) == 1) {
                    out.add(v.form);
                }
                if (!v.absent && kind(f) == 3) {
                    out.add((v.form + 1000) / 256);
                    out.add((v.form + 1000) % 256);
                }
            }
            return out;
        }

        Object encode() {
            if (!sealed) {
                return "IllegalStateException";
            }
            keyRow = keyOf(loaded);
            return keyRow.size();
        }

        Object load(int n, long bytes) {
            if (n < 1 || n > 8 || keyRow.size() + n > 120) {
                return false;
            }
            for (int i = n - 1; i >= 0; i--) {
                keyRow.add((int) ((bytes >> (8 * i)) & 255));
            }
            return true;
        }

        Object key(int k) {
            return k == -1 ? keyRow.size() : k >= 0 && k < keyRow.size() ? keyRow.get(k) : -1;
        }

        Object keep() {
            if (!sealed || kept.size() == 12) {
                return "IllegalStateException";
            }
            kept.add(copy(loaded));
            return kept.size() - 1;
        }

        boolean hasKept(int t) {
            return t >= 0 && t < kept.size();
        }

        Object take(int t) {
            if (!hasKept(t)) {
                return false;
            }
            loaded = copy(kept.get(t));
            return true;
        }

        int compareValues(int f, Value a, Value b) {
            if (a.absent || b.absent) {
                int order = Boolean.compare(a.absent, b.absent);
                return flag(f, 4) ? order : -order;
            }
            int order;
            switch (kind(f)) {
                case 1:
                    order = a.fraction().compareTo(b.fraction());
                    break;
                case 2:
                    order = compareRows(a.text, b.text);
                    break;
                default:
                    order = Long.compare(a.number, b.number);
                    break;
            }
            return flag(f, 1) ? -order : order;
        }

        Object compare(int a, int b) {
            if (!hasKept(a) || !hasKept(b)) {
                return -2;
            }
            for (int f = 0; f < fields.size(); f++) {
                int order = compareValues(f, kept.get(a).get(f), kept.get(b).get(f));
                if (order != 0) {
                    return order;
                }
            }
            return 0;
        }

        Object compareKeys(int a, int b) {
            return hasKept(a) && hasKept(b) ? compareRows(keyOf(kept.get(a)), keyOf(kept.get(b))) : -2;
        }

        List<Integer> inOrder() {
            List<Integer> numbers = new ArrayList<>();
            for (int i = 0; i < kept.size(); i++) {
                numbers.add(i);
            }
            numbers.sort((a, b) -> compareRows(keyOf(kept.get(a)), keyOf(kept.get(b))));
            return numbers;
        }

        Object rank(int t) {
            return hasKept(t) ? inOrder().indexOf(t) : -1;
        }

        Object shared(int r) {
            if (!hasKept(r)) {
                return -1;
            }
            if (r == 0) {
                return 0;
            }
            List<Integer> a = keyOf(kept.get(inOrder().get(r)));
            List<Integer> b = keyOf(kept.get(inOrder().get(r - 1)));
            int n = 0;
            while (n < a.size() && n < b.size() && a.get(n).equals(b.get(n))) {
                n++;
            }
            return n;
        }

        Object bounds(int t, int k) {
            if (!hasKept(t) || k < 0 || k > fields.size()) {
                return false;
            }
            low = startOf(kept.get(t), k);
            high = new ArrayList<>(low);
            while (!high.isEmpty() && high.get(high.size() - 1) == 255) {
                high.remove(high.size() - 1);
            }
            if (high.isEmpty()) {
                high = null;
            } else {
                high.set(high.size() - 1, high.get(high.size() - 1) + 1);
            }
            return true;
        }

        Object between(int n, int k, int a, int b) {
            if (!hasKept(n) || !hasKept(a) || !hasKept(b) || k < 0 || k >= fields.size()) {
                return false;
            }
            low = startOf(kept.get(n), k);
            low.addAll(fieldBytes(kept.get(a), k));
            high = startOf(kept.get(n), k);
            high.addAll(fieldBytes(kept.get(b), k));
            return true;
        }

        Object bound(int how, int j) {
            List<Integer> row = how == 0 ? low : how == 1 ? high : null;
            if (row == null) {
                return -1;
            }
            return j == -1 ? row.size() : j >= 0 && j < row.size() ? row.get(j) : -1;
        }

        Object within(int t) {
            if (!hasKept(t)) {
                return false;
            }
            List<Integer> own = keyOf(kept.get(t));
            return compareRows(own, low) >= 0 && (high == null || compareRows(own, high) < 0);
        }
    }

    private static List<Value> copy(List<Value> tuple) {
        List<Value> out = new ArrayList<>();
        for (Value v : tuple) {
            out.add(v.copy());
        }
        return out;
    }

    private static int compareRows(List<Integer> a, List<Integer> b) {
        int[] left = a.stream().mapToInt(Integer::intValue).toArray();
        int[] right = b.stream().mapToInt(Integer::intValue).toArray();
        return Integer.signum(Arrays.compare(left, right));
    }

    private interface Call {
        Object run();
    }

    private static Object answer(Call call) {
        try {
            return call.run();
        } catch (RuntimeException e) {
            return e.getClass().getSimpleName();
        }
    }

    /** A run: the object, and the model beside it. */
    private static final class Run {
        final int number;
        final KeyCodec x = new KeyCodec();
        final Model model = new Model();
        int calls = 0;

        Run(int number) {
            this.number = number;
        }

        void due(String call, Object got, Object want) {
            calls++;
            if (!String.valueOf(got).equals(String.valueOf(want))) {
                wrong++;
                if (wrong < 20) {
                    System.out.println("run " + number + ": " + call + " answered " + got + ", due is " + want);
                }
            }
        }

        void field(int kind, int flags) {
            due("field(" + kind + ", " + flags + ")", answer(() -> x.field(kind, flags)), model.field(kind, flags));
        }

        void put(int f, long number, int form) {
            due("put(" + f + ", " + number + ", " + form + ")", x.put(f, number, form), model.put(f, number, form));
        }

        void text(int f, int b) {
            due("text(" + f + ", " + b + ")", x.text(f, b), model.text(f, b));
        }

        void load(int n, long bytes) {
            due("load(" + n + ", " + bytes + ")", x.load(n, bytes), model.load(n, bytes));
        }

        void clearKey() {
            x.clearKey();
            model.keyRow = new ArrayList<>();
            calls++;
        }

        void encode() {
            due("encode()", answer(x::encode), model.encode());
        }

        void get(int f, int what) {
            due("get(" + f + ", " + what + ")", x.get(f, what), model.get(f, what));
        }

        void seeAll() {
            for (int f = 0; f < model.loaded.size(); f++) {
                int most = model.kind(f) == 2 ? 4 + model.loaded.get(f).text.size() : 4;
                for (int what = 0; what < most; what++) {
                    get(f, what);
                }
            }
        }

        /**
         * A row that is known as the loaded tuple's key must be read as it. Of any other row, what is read
         * must have it as its key; a refusal is taken as right.
         */
        void decode(boolean isKey) {
            Object got = answer(x::decode);
            calls++;
            if (!model.sealed) {
                due("decode() of an open schema", got, "IllegalStateException");
            } else if (isKey) {
                due("decode() of a key", got, true);
                seeAll();
            } else if (got.equals(true)) {
                model.loaded = readLoaded();
                due("what decode() read has the key", model.keyOf(model.loaded), model.keyRow);
            } else {
                due("decode()", got, "IllegalArgumentException");
            }
        }

        /** The loaded tuple by way of get, each value being one that its field can have. */
        List<Value> readLoaded() {
            List<Value> tuple = new ArrayList<>();
            for (int f = 0; f < model.fields.size(); f++) {
                Value v = new Value();
                v.absent = x.get(f, 0) == 1;
                boolean text = model.kind(f) == 2;
                v.number = text ? 0 : x.get(f, 1);
                v.form = (int) x.get(f, 2);
                for (int i = 0; text && i < x.get(f, 1); i++) {
                    v.text.add((int) x.get(f, 3 + i));
                }
                due("a value of field " + f, model.isValue(f, v.number, v.form) && v.text.size() <= 10, true);
                due("ABSENT is optional", v.absent && !model.flag(f, 2), false);
                tuple.add(v);
            }
            return tuple;
        }
    }

    private static long someNumber(int kind) {
        long[] edges = {0, 1, 2, 9, 10, 255, 256, 65535, 65536, LIMIT, LIMIT - 1, LIMIT + 1, LIMIT / 10, FAR,
            FAR - 1, FAR + 1, Long.MAX_VALUE, Long.MIN_VALUE};
        long number;
        switch (pick(5)) {
            case 0:
                number = edges[pick(edges.length)];
                break;
            case 1:
                number = pick(4);
                break;
            case 2:
                number = (1L << pick(63)) - pick(2);
                break;
            case 3:
                number = (1 + pick(999)) * powerOfTen(pick(13));
                break;
            default:
                number = ((long) pick(1 << 30) << 20) % LIMIT + pick(1000);
                break;
        }
        if (kind == 2 && pick(4) != 0) {
            return 0;
        }
        return pick(2) == 0 ? number : -number;
    }

    private static long powerOfTen(int n) {
        long power = 1;
        for (int i = 0; i < n; i++) {
            power *= 10;
        }
        return power;
    }

    private static int someForm(int kind) {
        if (pick(30) == 0) {
            return new int[] {-1, 10, 901, -901, 1, Integer.MAX_VALUE, Integer.MIN_VALUE}[pick(7)];
        }
        switch (kind) {
            case 1:
                return pick(10);
            case 3:
                return pick(3) == 0 ? (pick(2) == 0 ? 900 : -900) : pick(1801) - 900;
            default:
                return 0;
        }
    }

    private static int someByte() {
        return new int[] {0, 0, 1, 2, 254, 255, 255, 97, 256, -1}[pick(10)];
    }

    private static int someTuple(Run run) {
        return pick(15) == 0 ? new int[] {-1, 12, 13, run.model.kept.size()}[pick(4)]
                : pick(Math.max(1, run.model.kept.size()));
    }

    private static int someField(Run run) {
        return pick(20) == 0 ? pick(8) - 1 : pick(Math.max(1, run.model.fields.size()));
    }

    private static int kindAt(Run run, int f) {
        return f >= 0 && f < run.model.fields.size() ? run.model.kind(f) : 0;
    }

    private static void makeSchema(Run run) {
        int many = 1 + pick(5);
        for (int i = 0; i < many; i++) {
            run.field(pick(30) == 0 ? pick(10) - 3 : pick(4), pick(30) == 0 ? pick(12) - 2 : pick(8));
        }
        run.due("seal()", run.x.seal(), run.model.seal());
    }

    /** Loads a row that is one byte, or a few bits, away from a key, and reads it. */
    private static void readChanged(Run run) {
        run.encode();
        if (!run.model.sealed || run.model.keyRow.isEmpty()) {
            return;
        }
        List<Integer> row = new ArrayList<>(run.model.keyRow);
        int at = pick(row.size());
        switch (pick(5)) {
            case 0:
                row.set(at, row.get(at) + (pick(2) == 0 ? 1 : 255) & 255);
                break;
            case 1:
                row.set(at, row.get(at) ^ 255);
                break;
            case 2:
                row.remove(at);
                break;
            case 3:
                row.add(at, someByte() & 255);
                break;
            default:
                row.set(at, pick(256));
                break;
        }
        run.clearKey();
        for (int b : row) {
            run.load(1, b);
        }
        run.decode(false);
    }

    private static void change(Run run) {
        int f = someField(run);
        switch (pick(4)) {
            case 0:
                run.text(f, someByte());
                break;
            case 1:
                run.due("absent(" + f + ")", run.x.absent(f), run.model.absent(f));
                break;
            default:
                run.put(f, someNumber(kindAt(run, f)), someForm(kindAt(run, f)));
                break;
        }
    }

    private static void askOfKept(Run run) {
        int a = someTuple(run);
        int b = someTuple(run);
        switch (pick(6)) {
            case 0:
                run.due("compare(" + a + ", " + b + ")", run.x.compare(a, b), run.model.compare(a, b));
                break;
            case 1:
                run.due("compareKeys(" + a + ", " + b + ")", run.x.compareKeys(a, b), run.model.compareKeys(a, b));
                break;
            case 2:
                run.due("rank(" + a + ")", run.x.rank(a), run.model.rank(a));
                break;
            case 3:
                run.due("shared(" + a + ")", run.x.shared(a), run.model.shared(a));
                break;
            case 4:
                run.due("within(" + a + ")", run.x.within(a), run.model.within(a));
                break;
            default:
                run.due("take(" + a + ")", run.x.take(a), run.model.take(a));
                break;
        }
    }

    private static void setBounds(Run run) {
        int n = someTuple(run);
        int k = pick(7) == 0 ? pick(8) - 1 : pick(run.model.fields.size() + 1);
        if (pick(2) == 0) {
            run.due("bounds(" + n + ", " + k + ")", run.x.bounds(n, k), run.model.bounds(n, k));
        } else {
            int a = someTuple(run);
            int b = someTuple(run);
            run.due("between(" + n + ", " + k + ", " + a + ", " + b + ")", run.x.between(n, k, a, b),
                    run.model.between(n, k, a, b));
        }
    }

    private static void askOfRows(Run run) {
        int how = pick(20) == 0 ? pick(5) - 2 : pick(2);
        int j = pick(25) - 2;
        run.due("bound(" + how + ", " + j + ")", run.x.bound(how, j), run.model.bound(how, j));
        run.due("bound(" + how + ", -1)", run.x.bound(how, -1), run.model.bound(how, -1));
        run.due("key(" + j + ")", run.x.key(j), run.model.key(j));
        run.due("kept()", run.x.kept(), run.model.kept.size());
    }

    private static void step(Run run) {
        switch (pick(20)) {
            case 0:
                readChanged(run);
                break;
            case 1:
                run.encode();
                run.due("key(-1)", run.x.key(-1), run.model.key(-1));
                run.decode(run.model.sealed);
                break;
            case 2:
                run.load(pick(12) - 1, someNumber(0));
                break;
            case 3:
            case 4:
                run.due("keep()", answer(run.x::keep), run.model.keep());
                break;
            case 5:
            case 6:
                setBounds(run);
                break;
            case 7:
            case 8:
                askOfRows(run);
                break;
            case 9:
                run.get(someField(run), pick(16) - 1);
                break;
            case 10:
                rarely(run);
                break;
            case 11:
            case 12:
            case 13:
            case 14:
                askOfKept(run);
                break;
            default:
                change(run);
                break;
        }
    }

    private static void rarely(Run run) {
        switch (pick(6)) {
            case 0:
                run.x.clear();
                run.model.clear();
                run.calls++;
                makeSchema(run);
                break;
            case 1:
                run.clearKey();
                break;
            case 2:
                run.due("seal()", run.x.seal(), run.model.seal());
                break;
            case 3:
                run.field(pick(6) - 1, pick(10) - 1);
                break;
            case 4:
                run.decode(false);
                break;
            default:
                run.seeAll();
                break;
        }
    }

    public static void main(String[] args) {
        for (int number = 0; number < RUNS; number++) {
            Run run = new Run(number);
            if (pick(10) != 0) {
                makeSchema(run);
            }
            // A step may make some 150 calls: it stays below the document's 512.
            while (run.calls < CALLS - 200) {
                step(run);
            }
            run.seeAll();
        }
        System.out.println(wrong == 0 ? RUNS + " runs are as due" : wrong + " answers are not as due");
        if (wrong != 0) {
            System.exit(1);
        }
    }
}
