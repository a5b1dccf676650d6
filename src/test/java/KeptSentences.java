/** Promises 14 to 20: keep, take, kept, compare, compareKeys, rank, shared. */
final class KeptSentences extends Sentences {
    private static final String SHARED = "How many bytes from the beginning on the keys of the kept tuple of rank r "
            + "and that of rank r - 1 share";

    private KeptSentences() {
    }

    static void all() {
        keep();
        take();
        kept();
        compare();
        compareKeys();
        rank();
        shared();
    }

    /** Numbers of which none is kept when there are this many. */
    private static int[] noneOf(int many) {
        return bytes(-1, -2, many, many + 1, 12, 13, LEAST, MOST);
    }

    private static KeyCodec withTwelve() {
        KeyCodec x = sealedWith(INT, 0);
        for (int i = 0; i < 12; i++) {
            keepNumber(x, 100 * i, 0);
        }
        return x;
    }

    private static void keep() {
        section("Promise 14");
        sentence("The loaded tuple is kept: its number.", KeptSentences::keptAreNumbered);
        sentence("The loaded tuple is kept: its number.", KeptSentences::keptDoesNotFollowLoaded);
        sentence("The loaded tuple is kept: its number.", KeptSentences::keepLeavesTheRest);
        sentence("IllegalStateException if the schema is open", KeptSentences::keepWhileOpen);
        sentence("or there are 12.", KeptSentences::thirteenthIsRefused);
    }

    private static void keptAreNumbered() {
        KeyCodec x = sealedWith(INT, 0);
        for (int i = 0; i < 12; i++) {
            x.put(0, i / 2, 0);
            due("keep()", x.keep(), i);
        }
        for (int i = 0; i < 12; i++) {
            x.take(i);
            due("the INT of number " + i, x.get(0, 1), i / 2);
        }
    }

    private static void keptDoesNotFollowLoaded() {
        KeyCodec x = filledKinds();
        x.put(0, 1, 0);
        x.absent(1);
        x.text(2, 9);
        x.put(3, 1, 1);
        x.keep();
        x.take(1);
        due("number 1", tuple(x), "[[0, 77, 0], [0, -88, 3], [0, 2, 0, 200, 0], [0, 99, -5]]");
        x.take(2);
        due("number 2", tuple(x), "[[0, 1, 0], [1, 0, 0], [0, 3, 0, 200, 0, 9], [0, 1, 1]]");
    }

    private static void keepLeavesTheRest() {
        KeyCodec x = filledKinds();
        Object tuple = tuple(x);
        loadRow(x, 1, 2, 3);
        due("keep()", x.keep(), 2);
        due("the tuple stays", tuple(x), tuple);
        due("the key row", keyRow(x), row(1, 2, 3));
        dueBounds(x, row(1, 129, 77), row(1, 129, 78));
    }

    private static void keepWhileOpen() {
        dueStaying(new KeyCodec(), "keep() of a new object", STATE, KeyCodec::keep);
        KeyCodec x = openKinds();
        dueStaying(x, "keep() before seal()", STATE, KeyCodec::keep);
        x.seal();
        due("keep() behind seal()", answer(x, KeyCodec::keep), 0);
        x.clear();
        dueStaying(x, "keep() behind clear()", STATE, KeyCodec::keep);
    }

    private static void thirteenthIsRefused() {
        KeyCodec x = withTwelve();
        due("kept()", x.kept(), 12);
        x.put(0, 7, 0);
        dueStaying(x, "a thirteenth", STATE, KeyCodec::keep);
        for (int i = 0; i < 12; i++) {
            x.take(i);
            due("number " + i, x.get(0, 1), 100 * i);
        }
        due("take(12)", x.take(12), false);
        dueStaying(x, "a thirteenth again", STATE, KeyCodec::keep);
    }

    private static void take() {
        section("Promise 15");
        sentence("The loaded tuple becomes the kept one: true", KeptSentences::takeLoadsKept);
        sentence("The loaded tuple becomes the kept one: true", KeptSentences::takeLeavesTheRest);
        sentence("false if there is none.", KeptSentences::takeWithoutKept);
    }

    private static void takeLoadsKept() {
        KeyCodec x = filledKinds();
        due("take(0)", x.take(0), true);
        due("number 0", tuple(x), "[[0, 0, 0], [0, 0, 0], [0, 0, 0], [0, 0, 0]]");
        for (int f = 0; f < 4; f++) {
            x.absent(f);
        }
        x.keep();
        due("take(1)", x.take(1), true);
        due("number 1", tuple(x), "[[0, 77, 0], [0, -88, 3], [0, 2, 0, 200, 0], [0, 99, -5]]");
        due("take(2)", x.take(2), true);
        due("number 2", tuple(x), "[[1, 0, 0], [1, 0, 0], [1, 0, 0], [1, 0, 0]]");
        fill(x);
        x.text(2, 5);
        x.take(1);
        x.text(2, 6);
        due("take(2)", x.take(2), true);
        due("it did not follow", tuple(x), "[[1, 0, 0], [1, 0, 0], [1, 0, 0], [1, 0, 0]]");
        due("take(1)", x.take(1), true);
        due("it did not follow", value(x, 2), "[0, 2, 0, 200, 0]");
    }

    private static void takeLeavesTheRest() {
        KeyCodec x = filledKinds();
        String before = shownBesideTuple(x);
        x.take(0);
        due("what stands beside the tuple", shownBesideTuple(x), before);
    }

    private static void takeWithoutKept() {
        for (int t : noneOf(2)) {
            dueStaying(filledKinds(), "take(" + t + ") of two", false, x -> x.take(t));
        }
        for (int t : noneOf(0)) {
            dueStaying(sealedWith(INT, 0), "take(" + t + ") of none", false, x -> x.take(t));
            dueStaying(new KeyCodec(), "take(" + t + ") of a new object", false, x -> x.take(t));
        }
        KeyCodec x = withTwelve();
        due("take(11) of twelve", x.take(11), true);
        due("take(12) of twelve", x.take(12), false);
        due("the INT", x.get(0, 1), 1100);
    }

    private static void kept() {
        section("Promise 16");
        sentence("How many are kept.", KeptSentences::keptCounts);
    }

    private static void keptCounts() {
        KeyCodec x = new KeyCodec();
        dueStaying(x, "kept() of a new object", 0, KeyCodec::kept);
        x.field(INT, 0);
        due("kept() while it is open", x.kept(), 0);
        x.seal();
        for (int i = 0; i < 12; i++) {
            due("kept()", x.kept(), i);
            x.keep();
        }
        due("kept()", x.kept(), 12);
        answer(x, KeyCodec::keep);
        due("kept() behind a thirteenth", x.kept(), 12);
        x.take(3);
        due("kept() behind take(3)", x.kept(), 12);
        x.clear();
        due("kept() behind clear()", x.kept(), 0);
        answer(x, KeyCodec::keep);
        due("kept() behind a refused keep()", x.kept(), 0);
    }

    private static void compare() {
        section("Promise 17");
        sentence("Two kept tuples in order: below 0, 0 or above 0 (-1, 0, 1).", KeptSentences::compareInOrder);
        sentence("Two kept tuples in order: below 0, 0 or above 0 (-1, 0, 1).", KeptSentences::compareLeavesTailOut);
        sentence("-2 if there are none such.", KeptSentences::compareWithoutKept);
    }

    private static void compareInOrder() {
        KeyCodec x = withTwelve();
        for (int a = 0; a < 12; a++) {
            for (int b = 0; b < 12; b++) {
                due("compare(" + a + ", " + b + ")", x.compare(a, b), Integer.compare(a, b));
            }
        }
        dueStaying(filledKinds(), "compare(0, 1)", -1, y -> y.compare(0, 1));
        KeyCodec y = sealedWith(INT, DOWN);
        keepNumber(y, Long.MIN_VALUE, 0);
        keepNumber(y, Long.MAX_VALUE, 0);
        keepNumber(y, Long.MIN_VALUE, 0);
        due("the least, DOWN", y.compare(0, 1), 1);
        due("the most, DOWN", y.compare(1, 0), -1);
        due("equal ones", y.compare(0, 2), 0);
    }

    private static void compareLeavesTailOut() {
        KeyCodec x = sealedWith(DECIMAL, 0, INSTANT, 0);
        x.put(0, 15, 1);
        x.put(1, 5, 900);
        x.keep();
        x.put(0, 1500, 3);
        x.keep();
        x.put(1, 5, -900);
        x.keep();
        for (int a = 0; a < 3; a++) {
            for (int b = 0; b < 3; b++) {
                due("compare(" + a + ", " + b + ")", x.compare(a, b), 0);
            }
        }
    }

    private static void compareWithoutKept() {
        for (int t : noneOf(2)) {
            dueStaying(filledKinds(), "compare(" + t + ", 0)", -2, x -> x.compare(t, 0));
            dueStaying(filledKinds(), "compare(1, " + t + ")", -2, x -> x.compare(1, t));
            dueStaying(filledKinds(), "compare of " + t + " alone", -2, x -> x.compare(t, t));
        }
        dueStaying(new KeyCodec(), "compare(0, 0) of a new object", -2, x -> x.compare(0, 0));
        KeyCodec twelve = withTwelve();
        due("compare(11, 0) of twelve", twelve.compare(11, 0), 1);
        due("compare(12, 0) of twelve", twelve.compare(12, 0), -2);
        due("compare(0, 12) of twelve", twelve.compare(0, 12), -2);
    }

    private static void compareKeys() {
        section("Promise 18");
        sentence("Two kept tuples' keys as rows of bytes: likewise.", KeptSentences::compareKeysInOrder);
        sentence("Two kept tuples' keys as rows of bytes: likewise.", KeptSentences::compareKeysWithTail);
        sentence("Two kept tuples' keys as rows of bytes: likewise.", KeptSentences::compareKeysWithoutKept);
    }

    private static void compareKeysInOrder() {
        KeyCodec x = withTwelve();
        for (int a = 0; a < 12; a++) {
            for (int b = 0; b < 12; b++) {
                due("compareKeys(" + a + ", " + b + ")", x.compareKeys(a, b), Integer.compare(a, b));
            }
        }
        dueStaying(filledKinds(), "compareKeys(1, 0)", 1, y -> y.compareKeys(1, 0));
        KeyCodec y = sealedWith(TEXT, 0);
        keepText(y, 127);
        keepText(y, 128);
        keepText(y, 127);
        due("bytes are not below 0", y.compareKeys(0, 1), -1);
        due("equal ones", y.compareKeys(0, 2), 0);
    }

    private static void compareKeysWithTail() {
        KeyCodec x = sealedWith(DECIMAL, DOWN);
        keepNumber(x, 15, 1);
        keepNumber(x, 150, 2);
        keepNumber(x, 16, 1);
        due("scale 1 and 2", x.compareKeys(0, 1), -1);
        due("scale 2 and 1", x.compareKeys(1, 0), 1);
        due("the value comes before the tail", x.compareKeys(2, 0), -1);
        KeyCodec y = sealedWith(INSTANT, DOWN);
        keepNumber(y, 7, -745);
        keepNumber(y, 7, -744);
        keepNumber(y, 8, 900);
        due("offsets -745 and -744", y.compareKeys(0, 1), -1);
        due("the seconds come before the tail", y.compareKeys(2, 0), -1);
    }

    private static void compareKeysWithoutKept() {
        for (int t : noneOf(2)) {
            dueStaying(filledKinds(), "compareKeys(" + t + ", 0)", -2, x -> x.compareKeys(t, 0));
            dueStaying(filledKinds(), "compareKeys(1, " + t + ")", -2, x -> x.compareKeys(1, t));
            dueStaying(filledKinds(), "compareKeys of " + t + " alone", -2, x -> x.compareKeys(t, t));
        }
        dueStaying(new KeyCodec(), "compareKeys(0, 0) of a new object", -2, x -> x.compareKeys(0, 0));
        KeyCodec twelve = withTwelve();
        due("compareKeys(11, 0) of twelve", twelve.compareKeys(11, 0), 1);
        due("compareKeys(12, 0) of twelve", twelve.compareKeys(12, 0), -2);
        due("compareKeys(0, 12) of twelve", twelve.compareKeys(0, 12), -2);
    }

    private static void rank() {
        section("Promise 19");
        sentence("How many kept tuples' keys come before that of a kept one", KeptSentences::rankCountsKeysBefore);
        sentence("How many kept tuples' keys come before that of a kept one", KeptSentences::rankLooksAtKeys);
        sentence("of equal ones those with lower numbers do.", KeptSentences::rankOfEqualOnes);
        sentence("NONE if there is none such.", KeptSentences::rankWithoutKept);
    }

    private static void rankCountsKeysBefore() {
        KeyCodec one = sealedWith(INT, 0);
        one.keep();
        due("rank(0) of one", one.rank(0), 0);
        dueStaying(filledKinds(), "rank(1)", 1, x -> x.rank(1));
        KeyCodec x = sealedWith(INT, 0);
        for (int i = 0; i < 12; i++) {
            keepNumber(x, i * 5 % 12, 0);
        }
        for (int i = 0; i < 12; i++) {
            due("rank(" + i + ")", x.rank(i), i * 5 % 12);
        }
    }

    private static void rankLooksAtKeys() {
        KeyCodec x = sealedWith(DECIMAL, 0);
        keepNumber(x, 500, 2);
        keepNumber(x, 5, 0);
        keepNumber(x, 50, 1);
        due("scale 2", x.rank(0), 2);
        due("scale 0", x.rank(1), 0);
        due("scale 1", x.rank(2), 1);
    }

    private static void rankOfEqualOnes() {
        KeyCodec same = sealedWith(INT, 0);
        for (int i = 0; i < 12; i++) {
            same.keep();
        }
        for (int i = 0; i < 12; i++) {
            due("rank(" + i + ") of equal ones", same.rank(i), i);
        }
        KeyCodec x = sealedWith(INT, 0);
        int[] values = {5, 3, 5, 3, 4, 5};
        int[] ranks = {3, 0, 4, 1, 2, 5};
        for (int v : values) {
            keepNumber(x, v, 0);
        }
        for (int i = 0; i < 6; i++) {
            due("rank(" + i + ")", x.rank(i), ranks[i]);
        }
    }

    private static void rankWithoutKept() {
        for (int t : noneOf(2)) {
            dueStaying(filledKinds(), "rank(" + t + ") of two", NONE, x -> x.rank(t));
        }
        dueStaying(new KeyCodec(), "rank(0) of a new object", NONE, x -> x.rank(0));
        KeyCodec twelve = withTwelve();
        due("rank(11) of twelve", twelve.rank(11), 11);
        due("rank(12) of twelve", twelve.rank(12), NONE);
    }

    private static void shared() {
        section("Promise 20");
        sentence(SHARED, KeptSentences::sharedOfNeighbours);
        sentence(SHARED, KeptSentences::sharedWholeKeys);
        sentence(SHARED, KeptSentences::sharedUpToTheTail);
        sentence("0 for the first", KeptSentences::sharedOfTheFirst);
        sentence("NONE if there is no such rank.", KeptSentences::sharedWithoutRank);
    }

    private static void sharedOfNeighbours() {
        KeyCodec x = sealedWith(TEXT, 0);
        keepText(x, 98, 99);
        keepText(x, 97, 98, 99);
        keepText(x, 97, 98);
        keepText(x, 97, 98, 0);
        // By rank: ab, ab and 0, abc, bc; the keys of the first two share ab and a 0.
        int[] want = {0, 3, 2, 0};
        for (int r = 0; r < 4; r++) {
            due("shared(" + r + ")", x.shared(r), want[r]);
        }
        keepText(x, 97, 98, 98);
        due("shared(2), abb between", x.shared(2), 2);
        dueStaying(filledKinds(), "shared(1)", 1, y -> y.shared(1));
        due("shared(3), abc behind it", x.shared(3), 2);
        due("shared(4)", x.shared(4), 0);
    }

    private static void sharedWholeKeys() {
        KeyCodec x = sealedWith(TEXT, 0);
        for (int i = 0; i < 12; i++) {
            keepText(x, repeated(0, 10));
        }
        due("shared(0)", x.shared(0), 0);
        for (int r = 1; r < 12; r++) {
            due("shared(" + r + ") of equal keys", x.shared(r), 22);
        }
        KeyCodec y = sealedWith(INT, 0);
        keepNumber(y, 0, 0);
        keepNumber(y, 0, 0);
        due("shared(1) of keys of one byte", y.shared(1), 1);
    }

    private static void sharedUpToTheTail() {
        KeyCodec x = sealedWith(DECIMAL, 0);
        keepNumber(x, 50, 1);
        keepNumber(x, 5, 0);
        due("all but the scale", x.shared(1), 4);
        KeyCodec y = sealedWith(INSTANT, 0);
        keepNumber(y, 7, 1);
        keepNumber(y, 7, 0);
        due("all but the offset's lower byte", y.shared(1), 3);
    }

    private static void sharedOfTheFirst() {
        KeyCodec x = sealedWith(INT, 0);
        keepNumber(x, 5, 0);
        due("shared(0) of one", x.shared(0), 0);
        keepNumber(x, 5, 0);
        due("shared(0) of two equal ones", x.shared(0), 0);
        keepNumber(x, 4, 0);
        due("shared(0) of three", x.shared(0), 0);
        due("shared(1)", x.shared(1), 1);
    }

    private static void sharedWithoutRank() {
        due("shared(0) of none", sealedWith(INT, 0).shared(0), NONE);
        due("shared(0) of a new object", new KeyCodec().shared(0), NONE);
        for (int r : noneOf(2)) {
            dueStaying(filledKinds(), "shared(" + r + ") of two", NONE, x -> x.shared(r));
        }
        KeyCodec twelve = withTwelve();
        due("shared(11) of twelve", twelve.shared(11), 1);
        due("shared(12) of twelve", twelve.shared(12), NONE);
    }
}
