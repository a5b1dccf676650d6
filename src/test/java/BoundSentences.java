/** Promises 21 to 24: bounds, between, bound, within. */
final class BoundSentences extends Sentences {
    private static final String LOW = "LOW becomes the row of bytes of the first k fields of a kept tuple's key";

    /** Numbers of which none is kept when there are two. */
    private static final int[] NOT_OF_TWO = {-1, -2, 2, 3, 11, 12, LEAST, MOST};

    private BoundSentences() {
    }

    static void all() {
        bounds();
        between();
        bound();
        within();
    }

    private static void bounds() {
        section("Promise 21");
        sentence(LOW, BoundSentences::lowOfEachK);
        sentence(LOW, BoundSentences::lowOfTheKeptTuple);
        sentence("(without the TAIL, also of all)", BoundSentences::lowWithoutTail);
        sentence("HIGH the least row of bytes behind all that begin with LOW", BoundSentences::highIsOneMore);
        sentence("HIGH the least row of bytes behind all that begin with LOW", BoundSentences::highDropsFullBytes);
        sentence("(without end if there is none): true.", BoundSentences::highWithoutEnd);
        sentence("False if there is no such tuple", BoundSentences::boundsWithoutTuple);
        sentence("or k is not 0 .. the number of fields.", BoundSentences::boundsFieldsHaveEnds);
    }

    private static void lowOfEachK() {
        KeyCodec x = filledKinds();
        int[][] parts = {{1, 129, 77}, {1, 1, 192, 246, 246, 255}, {1, 200, 0, 255, 0, 1}, {1, 129, 99}};
        int[] low = {};
        for (int k = 0; k <= 4; k++) {
            due("bounds(1, " + k + ")", x.bounds(1, k), true);
            due("LOW of " + k, bound(x, 0), row(low));
            low = k < 4 ? joined(low, parts[k]) : low;
        }
    }

    private static void lowOfTheKeptTuple() {
        KeyCodec x = filledKinds();
        x.put(0, 5, 0);
        x.encode();
        String before = tuple(x) + " " + keyRow(x) + " " + x.kept();
        due("bounds(1, 1)", x.bounds(1, 1), true);
        due("LOW", bound(x, 0), row(1, 129, 77));
        due("bounds(0, 1)", x.bounds(0, 1), true);
        due("LOW", bound(x, 0), row(1, 128));
        due("what else stands", tuple(x) + " " + keyRow(x) + " " + x.kept(), before);
    }

    private static void lowWithoutTail() {
        KeyCodec x = sealedWith(DECIMAL, 0);
        keepNumber(x, 15, 1);
        due("bounds(0, 1)", x.bounds(0, 1), true);
        dueBounds(x, row(3, 65, 2, 6, 0), row(3, 65, 2, 6, 1));
        KeyCodec y = sealedWith(INSTANT, DOWN);
        keepNumber(y, 0, 900);
        due("bounds(0, 1)", y.bounds(0, 1), true);
        dueBounds(y, row(127), row(128));
    }

    private static void highIsOneMore() {
        KeyCodec x = sealedWith(INT, 0, TEXT, 0);
        x.put(0, 254, 0);
        x.keep();
        x.bounds(0, 1);
        dueBounds(x, row(129, 254), row(129, 255));
        x.bounds(0, 2);
        dueBounds(x, row(129, 254, 0, 1), row(129, 254, 0, 2));
        KeyCodec y = sealedWith(INT, OPTIONAL | LAST);
        y.absent(0);
        y.keep();
        y.bounds(0, 1);
        dueBounds(y, row(2), row(3));
        KeyCodec z = sealedWith(TEXT, DOWN);
        z.keep();
        z.bounds(0, 1);
        dueBounds(z, row(255, 254), row(255, 255));
    }

    private static void highDropsFullBytes() {
        KeyCodec x = sealedWith(INT, 0);
        keepNumber(x, 255, 0);
        keepNumber(x, 65535, 0);
        keepNumber(x, Long.MAX_VALUE, 0);
        keepNumber(x, 511, 0);
        x.bounds(0, 1);
        dueBounds(x, row(129, 255), row(130));
        x.bounds(1, 1);
        dueBounds(x, row(130, 255, 255), row(131));
        x.bounds(2, 1);
        dueBounds(x, row(joined(bytes(136, 127), repeated(255, 7))), row(136, 128));
        x.bounds(3, 1);
        dueBounds(x, row(130, 1, 255), row(130, 2));
        KeyCodec y = sealedWith(DECIMAL, 0);
        keepNumber(y, -25, 1);
        y.bounds(0, 1);
        dueBounds(y, row(1, 190, 252, 249, 255), row(1, 190, 252, 250));
    }

    private static void highWithoutEnd() {
        KeyCodec x = filledKinds();
        due("bounds(1, 0)", x.bounds(1, 0), true);
        dueBounds(x, row(), NO_END);
        due("bounds(1, 1)", x.bounds(1, 1), true);
        dueBounds(x, row(1, 129, 77), row(1, 129, 78));
        due("bounds(0, 0)", x.bounds(0, 0), true);
        dueBounds(x, row(), NO_END);
    }

    private static void boundsWithoutTuple() {
        due("bounds(1, 1) of two", filledKinds().bounds(1, 1), true);
        for (int t : NOT_OF_TWO) {
            dueStaying(filledKinds(), "bounds(" + t + ", 0)", false, x -> x.bounds(t, 0));
            dueStaying(filledKinds(), "bounds(" + t + ", 1)", false, x -> x.bounds(t, 1));
        }
        dueStaying(sealedWith(INT, 0), "bounds(0, 0) of none", false, x -> x.bounds(0, 0));
        dueStaying(new KeyCodec(), "bounds(0, 0) of a new object", false, x -> x.bounds(0, 0));
    }

    private static void boundsFieldsHaveEnds() {
        due("bounds(0, 4) of four", filledKinds().bounds(0, 4), true);
        for (int k : bytes(-1, -2, 5, 6, LEAST, MOST)) {
            dueStaying(filledKinds(), "bounds(0, " + k + ") of four", false, x -> x.bounds(0, k));
        }
        KeyCodec one = sealedWith(INT, 0);
        one.keep();
        due("bounds(0, 1) of one", one.bounds(0, 1), true);
        dueStaying(one, "bounds(0, 2) of one", false, x -> x.bounds(0, 2));
        KeyCodec five = sealedWith(TEXT, OPTIONAL, TEXT, OPTIONAL, TEXT, OPTIONAL, TEXT, OPTIONAL, TEXT, OPTIONAL);
        for (int f = 0; f < 5; f++) {
            putText(five, f, repeated(0, 10));
        }
        five.keep();
        due("bounds(0, 5) of five", five.bounds(0, 5), true);
        due("LOW has", five.bound(0, -1), 115);
        due("HIGH has", five.bound(1, -1), 115);
        due("LOW's last", five.bound(0, 114), 1);
        due("HIGH's last", five.bound(1, 114), 2);
        due("bounds(0, 6) of five", five.bounds(0, 6), false);
        due("LOW has still", five.bound(0, -1), 115);
    }

    private static void between() {
        section("Promise 22");
        sentence("LOW becomes the bytes of the first k fields of tuple n's key and of field k of a's",
                BoundSentences::lowOfBetween);
        sentence("HIGH those of these and of field k of b's: true.", BoundSentences::highOfBetween);
        sentence("HIGH those of these and of field k of b's: true.", BoundSentences::highBeforeLow);
        sentence("HIGH those of these and of field k of b's: true.", BoundSentences::betweenHasAnEnd);
        sentence("False if there are no such tuples", BoundSentences::betweenWithoutTuples);
        sentence("or k is not 0 .. the number of fields less 1.", BoundSentences::betweenFieldsHaveEnds);
    }

    /** Tuples 0, 1, 2: an INT, a DECIMAL with scale 1 and an optional TEXT of 1, 2, 3 each. */
    private static KeyCodec withThree() {
        KeyCodec x = sealedWith(INT, 0, DECIMAL, 0, TEXT, OPTIONAL);
        for (int i = 1; i <= 3; i++) {
            x.put(0, i, 0);
            x.put(1, i, 1);
            putText(x, 2, 96 + i);
            x.keep();
        }
        return x;
    }

    private static void lowOfBetween() {
        KeyCodec x = withThree();
        due("between(0, 0, 1, 2)", x.between(0, 0, 1, 2), true);
        due("LOW", bound(x, 0), row(129, 2));
        due("between(0, 1, 1, 2)", x.between(0, 1, 1, 2), true);
        due("LOW", bound(x, 0), row(129, 1, 3, 64, 3, 0));
        due("between(2, 2, 1, 0)", x.between(2, 2, 1, 0), true);
        due("LOW, without the TAIL", bound(x, 0), row(129, 3, 3, 64, 4, 0, 1, 98, 0, 1));
        x.absent(2);
        x.keep();
        due("between(0, 2, 3, 1)", x.between(0, 2, 3, 1), true);
        due("LOW, ABSENT", bound(x, 0), row(129, 1, 3, 64, 2, 0, 0));
    }

    private static void highOfBetween() {
        KeyCodec x = withThree();
        x.between(0, 0, 1, 2);
        due("HIGH", bound(x, 1), row(129, 3));
        x.between(0, 1, 1, 2);
        due("HIGH", bound(x, 1), row(129, 1, 3, 64, 4, 0));
        x.between(2, 2, 0, 1);
        due("HIGH, without the TAIL", bound(x, 1), row(129, 3, 3, 64, 4, 0, 1, 98, 0, 1));
        x.absent(2);
        x.keep();
        x.between(1, 2, 0, 3);
        due("HIGH, ABSENT", bound(x, 1), row(129, 2, 3, 64, 3, 0, 0));
    }

    private static void highBeforeLow() {
        KeyCodec x = withThree();
        x.encode();
        String before = tuple(x) + " " + keyRow(x) + " " + x.kept();
        due("between(0, 0, 2, 1)", x.between(0, 0, 2, 1), true);
        dueBounds(x, row(129, 3), row(129, 2));
        due("what else stands", tuple(x) + " " + keyRow(x) + " " + x.kept(), before);
        due("between(1, 0, 1, 1)", x.between(1, 0, 1, 1), true);
        dueBounds(x, row(129, 2), row(129, 2));
    }

    private static void betweenHasAnEnd() {
        KeyCodec x = withThree();
        due("HIGH at first", bound(x, 1), NO_END);
        x.between(0, 0, 0, 1);
        due("HIGH", bound(x, 1), row(129, 2));
        x.bounds(0, 0);
        due("HIGH behind bounds(0, 0)", bound(x, 1), NO_END);
        x.between(0, 0, 0, 2);
        due("HIGH", bound(x, 1), row(129, 3));
    }

    private static void betweenWithoutTuples() {
        due("between(1, 0, 1, 1) of two", filledKinds().between(1, 0, 1, 1), true);
        for (int t : NOT_OF_TWO) {
            dueStaying(filledKinds(), "between(" + t + ", 0, 0, 1)", false, x -> x.between(t, 0, 0, 1));
            dueStaying(filledKinds(), "between(0, 0, " + t + ", 1)", false, x -> x.between(0, 0, t, 1));
            dueStaying(filledKinds(), "between(0, 0, 1, " + t + ")", false, x -> x.between(0, 0, 1, t));
            dueStaying(filledKinds(), "between(0, 3, 1, " + t + ")", false, x -> x.between(0, 3, 1, t));
        }
        dueStaying(sealedWith(INT, 0), "between of none", false, x -> x.between(0, 0, 0, 0));
        dueStaying(new KeyCodec(), "between of a new object", false, x -> x.between(0, 0, 0, 0));
    }

    private static void betweenFieldsHaveEnds() {
        due("between(0, 0, 0, 1) of four", filledKinds().between(0, 0, 0, 1), true);
        due("between(0, 3, 0, 1) of four", filledKinds().between(0, 3, 0, 1), true);
        for (int k : bytes(-1, -2, 4, 5, 6, LEAST, MOST)) {
            dueStaying(filledKinds(), "between(0, " + k + ", 0, 1) of four", false, x -> x.between(0, k, 0, 1));
        }
        KeyCodec one = sealedWith(INT, 0);
        one.keep();
        due("between(0, 0, 0, 0) of one", one.between(0, 0, 0, 0), true);
        dueStaying(one, "between(0, 1, 0, 0) of one", false, x -> x.between(0, 1, 0, 0));
        KeyCodec five = sealedWith(INT, 0, INT, 0, INT, 0, INT, 0, INT, 0);
        five.keep();
        due("between(0, 4, 0, 0) of five", five.between(0, 4, 0, 0), true);
        dueBounds(five, row(128, 128, 128, 128, 128), row(128, 128, 128, 128, 128));
        dueStaying(five, "between(0, 5, 0, 0) of five", false, x -> x.between(0, 5, 0, 0));
    }

    private static void bound() {
        section("Promise 23");
        sentence("Byte j of LOW (how 0) or HIGH (1)", BoundSentences::boundGivesBytes);
        sentence("NONE if there is none.", BoundSentences::boundWithoutByte);
        sentence("NONE if there is none.", BoundSentences::boundOfNeither);
        sentence("How many if j is -1", BoundSentences::boundCounts);
        sentence("for HIGH without end (also at first) NONE.", BoundSentences::boundWithoutEnd);
        sentence("for HIGH without end (also at first) NONE.", BoundSentences::boundAtFirst);
    }

    private static KeyCodec withBounds() {
        KeyCodec x = sealedWith(INT, 0);
        keepNumber(x, 511, 0);
        x.bounds(0, 1);
        return x;
    }

    private static void boundGivesBytes() {
        KeyCodec x = withBounds();
        int[] low = {130, 1, 255};
        int[] high = {130, 2};
        for (int j = 0; j < 3; j++) {
            due("bound(0, " + j + ")", x.bound(0, j), low[j]);
        }
        for (int j = 0; j < 2; j++) {
            due("bound(1, " + j + ")", x.bound(1, j), high[j]);
        }
    }

    private static void boundWithoutByte() {
        KeyCodec x = withBounds();
        due("bound(0, 3) of three", x.bound(0, 3), NONE);
        due("bound(1, 2) of two", x.bound(1, 2), NONE);
        for (int j : bytes(4, 119, 120, 121, -2, -3, LEAST, MOST)) {
            due("bound(0, " + j + ")", x.bound(0, j), NONE);
            due("bound(1, " + j + ")", x.bound(1, j), NONE);
        }
        x.bounds(0, 0);
        due("bound(0, 0) of the empty LOW", x.bound(0, 0), NONE);
    }

    private static void boundOfNeither() {
        KeyCodec x = withBounds();
        for (int how : bytes(-1, 2, 3, LEAST, MOST)) {
            for (int j : bytes(-1, 0, 1)) {
                due("bound(" + how + ", " + j + ")", x.bound(how, j), NONE);
            }
        }
    }

    private static void boundCounts() {
        KeyCodec x = withBounds();
        due("bound(0, -1)", x.bound(0, -1), 3);
        due("bound(1, -1)", x.bound(1, -1), 2);
        x.bounds(0, 0);
        due("bound(0, -1) of the empty LOW", x.bound(0, -1), 0);
        x.between(0, 0, 0, 0);
        due("bound(1, -1)", x.bound(1, -1), 3);
    }

    private static void boundWithoutEnd() {
        KeyCodec x = withBounds();
        x.bounds(0, 0);
        for (int j : bytes(-1, 0, 1, 2)) {
            due("bound(1, " + j + ")", x.bound(1, j), NONE);
        }
    }

    private static void boundAtFirst() {
        KeyCodec x = new KeyCodec();
        due("bound(1, -1) of a new object", x.bound(1, -1), NONE);
        due("bound(1, 0) of a new object", x.bound(1, 0), NONE);
        due("bound(0, -1) of a new object", x.bound(0, -1), 0);
        due("bound(0, 0) of a new object", x.bound(0, 0), NONE);
        x.field(INT, 0);
        x.seal();
        x.keep();
        dueBounds(x, row(), NO_END);
    }

    private static void within() {
        section("Promise 24");
        sentence("Whether a kept tuple's key is not before LOW", BoundSentences::withinFromLowOn);
        sentence("and before HIGH", BoundSentences::withinBeforeHigh);
        sentence("and before HIGH", BoundSentences::withinLooksAtTheKey);
        sentence("if that has an end.", BoundSentences::withinWithoutEnd);
        sentence("False if there is none such.", BoundSentences::withinWithoutKept);
    }

    /** INTs 0 .. 4, so that a key can be LOW or HIGH itself: it has no tail. */
    private static KeyCodec withFive() {
        KeyCodec x = sealedWith(INT, 0);
        for (int i = 0; i < 5; i++) {
            keepNumber(x, i, 0);
        }
        return x;
    }

    private static void dueWithin(KeyCodec x, boolean... want) {
        for (int t = 0; t < want.length; t++) {
            due("within(" + t + ")", x.within(t), want[t]);
        }
    }

    private static void withinFromLowOn() {
        dueStaying(filledKinds(), "within(0)", false, y -> y.within(0));
        dueStaying(filledKinds(), "within(1)", true, y -> y.within(1));
        KeyCodec x = withFive();
        x.between(0, 0, 2, 4);
        dueWithin(x, false, false, true, true, false);
        x.between(0, 0, 0, 4);
        dueWithin(x, true, true, true, true, false);
    }

    private static void withinBeforeHigh() {
        KeyCodec x = withFive();
        x.between(0, 0, 1, 3);
        dueWithin(x, false, true, true, false, false);
        x.between(0, 0, 3, 1);
        dueWithin(x, false, false, false, false, false);
        x.between(0, 0, 2, 2);
        dueWithin(x, false, false, false, false, false);
        x.bounds(3, 1);
        dueWithin(x, false, false, false, true, false);
    }

    private static void withinLooksAtTheKey() {
        KeyCodec x = sealedWith(DECIMAL, 0);
        keepNumber(x, 5, 0);
        keepNumber(x, 50, 1);
        keepNumber(x, 51, 1);
        keepNumber(x, 49, 1);
        x.bounds(0, 1);
        dueWithin(x, true, true, false, false);
        x.between(0, 0, 3, 0);
        // The keys of 5 are HIGH with a tail behind it: not before HIGH.
        dueWithin(x, false, false, false, true);
    }

    private static void withinWithoutEnd() {
        KeyCodec x = withFive();
        dueWithin(x, true, true, true, true, true);
        x.bounds(2, 1);
        dueWithin(x, false, false, true, false, false);
        x.bounds(2, 0);
        dueWithin(x, true, true, true, true, true);
        keepNumber(x, Long.MAX_VALUE, 0);
        keepNumber(x, Long.MIN_VALUE, 0);
        due("the most", x.within(5), true);
        due("the least", x.within(6), true);
    }

    private static void withinWithoutKept() {
        KeyCodec x = filledKinds();
        x.bounds(0, 0);
        due("within(0)", x.within(0), true);
        due("within(1)", x.within(1), true);
        for (int t : NOT_OF_TWO) {
            due("within(" + t + ")", x.within(t), false);
            dueStaying(filledKinds(), "within(" + t + ")", false, y -> y.within(t));
        }
        due("within(0) of a new object", new KeyCodec().within(0), false);
        KeyCodec none = sealedWith(INT, 0);
        due("within(0) of none", none.within(0), false);
        due("within(-1) of none", none.within(-1), false);
    }
}
