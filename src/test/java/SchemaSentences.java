/** Promises 1 to 4: a new object, field, seal, clear. */
final class SchemaSentences extends Sentences {
    private SchemaSentences() {
    }

    static void all() {
        newObject();
        field();
        seal();
        clear();
    }

    private static void newObject() {
        section("Promise 1");
        sentence("An open schema without fields.", SchemaSentences::newObjectIsOpen);
        sentence("An open schema without fields.", SchemaSentences::newObjectHasNoField);
    }

    private static void newObjectIsOpen() {
        due("encode()", answer(new KeyCodec(), KeyCodec::encode), STATE);
        due("decode()", answer(new KeyCodec(), KeyCodec::decode), STATE);
        due("keep()", answer(new KeyCodec(), KeyCodec::keep), STATE);
        due("field(0, 0)", answer(new KeyCodec(), x -> x.field(INT, 0)), 0);
    }

    private static void newObjectHasNoField() {
        KeyCodec x = new KeyCodec();
        due("seal()", x.seal(), false);
        due("get(0, 0)", x.get(0, 0), NONE);
        due("the first field", x.field(TEXT, 0), 0);
        due("seal() with one", x.seal(), true);
        due("get(1, 0)", x.get(1, 0), NONE);
    }

    private static void field() {
        section("Promise 2");
        sentence("A field more: its number.", SchemaSentences::fieldsAreNumbered);
        sentence("A field more: its number.", SchemaSentences::fieldLeavesTheRest);
        sentence("IllegalArgumentException if kind or flags are not so", SchemaSentences::kindsHaveEnds);
        sentence("IllegalArgumentException if kind or flags are not so", SchemaSentences::flagsHaveEnds);
        sentence("IllegalArgumentException if kind or flags are not so", SchemaSentences::refusedFieldIsNoField);
        sentence("IllegalStateException if the schema is sealed", SchemaSentences::sealedTakesNoField);
        sentence("or has 5.", SchemaSentences::sixthIsRefused);
        sentence("(The one named first, if both hold.)", SchemaSentences::argumentBeforeSealed);
        sentence("(The one named first, if both hold.)", SchemaSentences::argumentBeforeFull);
    }

    private static void fieldsAreNumbered() {
        KeyCodec x = new KeyCodec();
        for (int i = 0; i < 5; i++) {
            due("field", x.field(i % 4, 7 - i), i);
        }
        x.clear();
        due("the first behind clear()", x.field(INT, 0), 0);
        due("one like it", x.field(INT, 0), 1);
    }

    private static void fieldLeavesTheRest() {
        KeyCodec x = filledKinds();
        x.clear();
        x.load(2, 0x0708);
        dueStaying(x, "field(0, 0)", 0, y -> y.field(INT, 0));
        dueStaying(x, "field(2, 7)", 1, y -> y.field(TEXT, 7));
    }

    private static void kindsHaveEnds() {
        for (int kind = 0; kind <= 3; kind++) {
            due("kind " + kind, new KeyCodec().field(kind, 0), 0);
        }
        for (int kind : bytes(-1, 4, 256, LEAST, MOST)) {
            dueStaying(new KeyCodec(), "kind " + kind, ARGUMENT, x -> x.field(kind, 0));
        }
    }

    private static void flagsHaveEnds() {
        for (int kind = 0; kind <= 3; kind++) {
            for (int flags = 0; flags <= 7; flags++) {
                due("kind " + kind + " with flags " + flags, new KeyCodec().field(kind, flags), 0);
            }
            for (int flags : bytes(-1, 8, 9, 16, 256, LEAST, MOST)) {
                int wanted = kind;
                dueStaying(new KeyCodec(), "flags " + flags, ARGUMENT, x -> x.field(wanted, flags));
            }
        }
    }

    private static void refusedFieldIsNoField() {
        KeyCodec x = new KeyCodec();
        answer(x, y -> y.field(4, 0));
        answer(x, y -> y.field(0, 8));
        due("seal() without a field", x.seal(), false);
        due("the first that is taken", x.field(TEXT, 0), 0);
        answer(x, y -> y.field(-1, 0));
        due("the second that is taken", x.field(INT, 0), 1);
        x.seal();
        due("field 0 is the TEXT", x.text(0, 1), true);
        due("field 1 is the INT", x.put(1, 5, 0), true);
        due("there is no field 2", x.get(2, 0), NONE);
    }

    private static void sealedTakesNoField() {
        KeyCodec x = open(INT, 0);
        due("one more before seal()", x.field(INT, 0), 1);
        x.seal();
        dueStaying(x, "one more behind seal()", STATE, y -> y.field(INT, 0));
        due("there is no field 2", x.get(2, 0), NONE);
        dueStaying(filledKinds(), "a fifth behind seal()", STATE, y -> y.field(DECIMAL, 7));
    }

    private static void sixthIsRefused() {
        KeyCodec x = open(INT, 0, INT, 0, INT, 0, INT, 0);
        due("a fifth", x.field(TEXT, OPTIONAL), 4);
        dueStaying(x, "a sixth", STATE, y -> y.field(INT, 0));
        dueStaying(x, "a sixth once more", STATE, y -> y.field(TEXT, 7));
        due("seal()", x.seal(), true);
        due("the fifth is as it was", x.absent(4), true);
        due("there is no field 5", x.get(5, 0), NONE);
    }

    private static void argumentBeforeSealed() {
        dueStaying(filledKinds(), "kind 4, sealed", ARGUMENT, x -> x.field(4, 0));
        dueStaying(filledKinds(), "kind -1, sealed", ARGUMENT, x -> x.field(-1, 0));
        dueStaying(filledKinds(), "flags 8, sealed", ARGUMENT, x -> x.field(0, 8));
        dueStaying(filledKinds(), "flags -1, sealed", ARGUMENT, x -> x.field(0, -1));
    }

    private static void argumentBeforeFull() {
        int[] five = {INT, 0, INT, 0, INT, 0, INT, 0, INT, 0};
        dueStaying(open(five), "kind 4, five fields", ARGUMENT, x -> x.field(4, 0));
        dueStaying(open(five), "flags 8, five fields", ARGUMENT, x -> x.field(0, 8));
        dueStaying(sealedWith(five), "kind -1, five fields, sealed", ARGUMENT, x -> x.field(-1, 0));
        dueStaying(sealedWith(five), "flags -1, five fields, sealed", ARGUMENT, x -> x.field(0, -1));
        dueStaying(sealedWith(five), "a right one, five fields, sealed", STATE, x -> x.field(0, 0));
    }

    private static void seal() {
        section("Promise 3");
        sentence("The schema is sealed: true", SchemaSentences::sealTakesOneToFive);
        sentence("The schema is sealed: true", SchemaSentences::sealLeavesTheRest);
        sentence("false if it is already", SchemaSentences::sealTwice);
        sentence("or has no field.", SchemaSentences::sealWithoutField);
    }

    private static void sealTakesOneToFive() {
        KeyCodec x = new KeyCodec();
        for (int many = 1; many <= 5; many++) {
            x.clear();
            for (int i = 0; i < many; i++) {
                x.field(INT, 0);
            }
            due("put before seal()", x.put(0, 1, 0), false);
            due("seal() with " + many, x.seal(), true);
            due("put of the last field", x.put(many - 1, 1, 0), true);
            due("field behind seal()", answer(x, y -> y.field(INT, 0)), STATE);
        }
    }

    private static void sealLeavesTheRest() {
        KeyCodec x = filledKinds();
        x.clear();
        x.load(2, 0x0708);
        x.field(INT, 0);
        String before = shownBesideTuple(x);
        due("seal()", x.seal(), true);
        due("what stands beside the tuple", shownBesideTuple(x), before);
    }

    private static void sealTwice() {
        KeyCodec x = filledKinds();
        dueStaying(x, "seal() again", false, KeyCodec::seal);
        dueStaying(x, "seal() a third time", false, KeyCodec::seal);
        due("it is sealed still", x.put(0, 1, 0), true);
    }

    private static void sealWithoutField() {
        KeyCodec x = new KeyCodec();
        dueStaying(x, "seal() of a new object", false, KeyCodec::seal);
        due("it is open still", x.field(INT, 0), 0);
        due("seal() with a field", x.seal(), true);
        x.clear();
        dueStaying(x, "seal() behind clear()", false, KeyCodec::seal);
        due("it is open still", answer(x, KeyCodec::encode), STATE);
        due("it takes a field", x.field(INT, 0), 0);
    }

    private static void clear() {
        section("Promise 4");
        sentence("An open schema without fields", SchemaSentences::clearOpens);
        sentence("An open schema without fields", SchemaSentences::clearDropsOpenFields);
        sentence("nothing loaded", SchemaSentences::clearDropsLoaded);
        sentence("nothing loaded, kept", SchemaSentences::clearDropsKept);
        sentence("or in the key row.", SchemaSentences::clearDropsKeyRow);
        sentence("(LOW and HIGH stay.)", SchemaSentences::clearLeavesBounds);
        sentence("(LOW and HIGH stay.)", SchemaSentences::clearLeavesHighWithoutEnd);
    }

    private static void clearOpens() {
        KeyCodec x = filledKinds();
        x.clear();
        due("encode()", answer(x, KeyCodec::encode), STATE);
        due("keep()", answer(x, KeyCodec::keep), STATE);
        due("put(0, 1, 0)", x.put(0, 1, 0), false);
        due("seal() without a field", x.seal(), false);
        for (int i = 0; i < 5; i++) {
            due("field", x.field(INT, 0), i);
        }
        due("seal()", x.seal(), true);
    }

    private static void clearDropsOpenFields() {
        KeyCodec x = open(INT, 0, INT, 0, INT, 0, INT, 0, INT, 0);
        x.clear();
        due("seal()", x.seal(), false);
        due("the first field", x.field(TEXT, 0), 0);
        due("seal()", x.seal(), true);
        due("it is the TEXT", x.text(0, 1), true);
        due("there is no field 1", x.get(1, 0), NONE);
        due("its key", x.encode(), 3);
        KeyCodec y = new KeyCodec();
        y.clear();
        due("clear() of a new object", shown(y), shown(new KeyCodec()));
    }

    private static void clearDropsLoaded() {
        KeyCodec x = filledKinds();
        x.absent(0);
        x.clear();
        due("get(1, 1)", x.get(1, 1), NONE);
        for (int kind = 0; kind <= 3; kind++) {
            x.field(kind, OPTIONAL);
        }
        due("while it is open", tuple(x), "[]");
        x.seal();
        due("the tuple", tuple(x), "[[0, 0, 0], [0, 0, 0], [0, 0, 0], [0, 0, 0]]");
    }

    private static void clearDropsKept() {
        KeyCodec x = sealedWith(INT, 0);
        for (int i = 0; i < 12; i++) {
            x.keep();
        }
        x.clear();
        due("kept()", x.kept(), 0);
        due("take(0)", x.take(0), false);
        due("compare(0, 0)", x.compare(0, 0), -2);
        due("rank(0)", x.rank(0), NONE);
        due("shared(0)", x.shared(0), NONE);
        due("bounds(0, 0)", x.bounds(0, 0), false);
        x.field(TEXT, 0);
        x.seal();
        due("kept() behind seal()", x.kept(), 0);
        for (int i = 0; i < 12; i++) {
            due("keep()", x.keep(), i);
        }
    }

    private static void clearDropsKeyRow() {
        KeyCodec x = filledKinds();
        due("it has a key row", x.key(-1) > 0, true);
        x.clear();
        due("key(-1)", x.key(-1), 0);
        due("key(0)", x.key(0), NONE);
        due("load(1, 9)", x.load(1, 9), true);
        due("the key row", keyRow(x), row(9));
    }

    private static void clearLeavesBounds() {
        KeyCodec x = filledKinds();
        x.clear();
        dueBounds(x, row(1, 129, 77), row(1, 129, 78));
        x.field(INT, OPTIONAL);
        x.seal();
        dueBounds(x, row(1, 129, 77), row(1, 129, 78));
        keepNumber(x, 77, 0);
        keepNumber(x, 78, 0);
        due("within(0)", x.within(0), true);
        due("within(1)", x.within(1), false);
    }

    private static void clearLeavesHighWithoutEnd() {
        KeyCodec x = filledKinds();
        x.bounds(0, 0);
        x.clear();
        dueBounds(x, row(), NO_END);
        KeyCodec y = new KeyCodec();
        y.clear();
        dueBounds(y, row(), NO_END);
    }
}
