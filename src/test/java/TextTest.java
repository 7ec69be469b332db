/** Promises 22 to 36: texts; a test of each sentence. */
public final class TextTest {
    private static final Due due = Due.ofPromises(22, 36);
    private static final int MIN = Integer.MIN_VALUE;
    private static final int MAX = Integer.MAX_VALUE;
    private static final int NONE = -1, UNKNOWN = -1001, MISSING = -1003, COUNT = -1004, PLACE = -1005, FULL = -1007;

    public static void main(String[] args) {
        forget();
        textSize();
        signAt();
        firstSign();
        lastSign();
        firstText();
        lastText();
        region();
        order();
        begins();
        swap();
        sub();
        trim();
        repeat();
        join();
        due.end();
    }

    /** The texts from 0 on; those behind them are missing. */
    private static RowsOfSigns with(String... texts) {
        return Rows.with("", texts);
    }

    /** Text 0 is abca, text 1 is empty, text 2 is missing, text 3 was forgotten, text 4 is ab. */
    private static RowsOfSigns small() {
        RowsOfSigns x = with("abca", "", null, "gone", "ab");
        x.forget(3);
        return x;
    }

    private static RowsOfSigns alike() {
        return Rows.alike("abc");
    }

    /** An empty text is taken, one that is missing or was forgotten is not. */
    private static void missing(String call, long wantOfEmpty, Due.CallWith made) {
        due.is(call + " of an empty text", made.on(small(), 1), wantOfEmpty);
        due.refused(TextTest::small, call + " of a missing text", MISSING, x -> made.on(x, 2));
        due.refused(TextTest::small, call + " of a forgotten text", MISSING, x -> made.on(x, 3));
    }

    /** What the call answers, and the text that it makes. */
    private static void makes(RowsOfSigns x, String call, Due.Call made, int into, String row) {
        due.is(call, made.on(x), row.length());
        due.is(call, Rows.text(x, into), row);
    }

    private static void forget() {
        due.test("Promise 22", "A TEXT is MISSING from now on: 1; 0: it was", () -> {
            RowsOfSigns x = small();
            due.is("forget(0)", x.forget(0), 1);
            due.is("textSize(0)", x.textSize(0), NONE);
            due.is("forget(0) again", x.forget(0), 0);
            due.is("textSize(0) again", x.textSize(0), NONE);
            due.is("forget(1), empty", x.forget(1), 1);
            due.is("textSize(1)", x.textSize(1), NONE);
            due.is("forget(2), missing at first", x.forget(2), 0);
            due.is("textSize(4), another one", x.textSize(4), 2);
            makes(x, "trim(4, 0), it is a row again", y -> y.trim(4, 0), 0, "ab");
            due.is("forget(0), it was a row again", x.forget(0), 1);
        });
        due.test("Promise 22", "UNKNOWN", () -> due.texts(TextTest::alike, "forget(t)", 1, (x, t) -> x.forget(t)));
    }

    private static void textSize() {
        due.test("Promise 23", "How many SIGNS a TEXT has", () -> {
            due.is("textSize(0)", small().textSize(0), 4);
            due.is("textSize(1), empty", small().textSize(1), 0);
            due.is("textSize(0) of 200", with("x".repeat(200)).textSize(0), 200);
        });
        due.test("Promise 23", "NONE: it is MISSING", () -> {
            due.is("textSize(2)", small().textSize(2), NONE);
            due.is("textSize(3), forgotten", small().textSize(3), NONE);
        });
        due.test("Promise 23", "UNKNOWN",
                () -> due.texts(TextTest::alike, "textSize(t)", 3, (x, t) -> x.textSize(t)));
    }

    private static void signAt() {
        due.test("Promise 24", "The SIGN at a place", () -> {
            due.is("signAt(0, 0)", small().signAt(0, 0), 'a');
            due.is("signAt(0, 1)", small().signAt(0, 1), 'b');
            due.is("signAt(0, 3)", small().signAt(0, 3), 'a');
            due.is("signAt(0, 0) of SIGN 0", with("\u0000\u00ff").signAt(0, 0), 0);
            due.is("signAt(0, 1) of SIGN 255", with("\u0000\u00ff").signAt(0, 1), 255);
        });
        due.test("Promise 24", "UNKNOWN",
                () -> due.texts(TextTest::alike, "signAt(t, 2)", 'c', (x, t) -> x.signAt(t, 2)));
        due.test("Promise 24", "MISSING", () -> missing("signAt(t, 0)", PLACE, (x, t) -> x.signAt(t, 0)));
        due.test("Promise 24", "PLACE: there is none", () -> {
            due.bounds(TextTest::small, "signAt(0, at)", 0, 'a', 3, 'a', PLACE, (x, at) -> x.signAt(0, at));
            due.refused(TextTest::small, "signAt(1, 0), empty", PLACE, x -> x.signAt(1, 0));
            due.bounds(() -> with("x".repeat(200)), "signAt(0, at) of 200", 0, 'x', 199, 'x', PLACE,
                    (x, at) -> x.signAt(0, at));
            RowsOfSigns x = small();
            x.trim(4, 0);
            due.is("signAt(0, 2), the row before had one", x.signAt(0, 2), PLACE);
        });
    }

    private static void firstSign() {
        due.test("Promise 25", "THE FIRST of a SIGN in a TEXT", () -> {
            due.is("firstSign(0, a, 0)", small().firstSign(0, 'a', 0), 0);
            due.is("firstSign(0, a, -1)", small().firstSign(0, 'a', -1), 0);
            due.is("firstSign(0, a, MIN)", small().firstSign(0, 'a', MIN), 0);
            due.is("firstSign(0, a, 1)", small().firstSign(0, 'a', 1), 3);
            due.is("firstSign(0, a, 3)", small().firstSign(0, 'a', 3), 3);
            due.is("firstSign(0, 255, 0)", with("a\u00ff\u0000").firstSign(0, 255, 0), 1);
            due.is("firstSign(0, 0, 0)", with("a\u00ff\u0000").firstSign(0, 0, 0), 2);
        });
        due.test("Promise 25", "NONE", () -> {
            due.is("firstSign(0, a, 4)", small().firstSign(0, 'a', 4), NONE);
            due.is("firstSign(0, a, MAX)", small().firstSign(0, 'a', MAX), NONE);
            due.is("firstSign(0, b, 2)", small().firstSign(0, 'b', 2), NONE);
            due.is("firstSign(0, z, 0)", small().firstSign(0, 'z', 0), NONE);
            due.is("firstSign(1, a, 0), empty", small().firstSign(1, 'a', 0), NONE);
            RowsOfSigns x = small();
            x.trim(4, 0);
            due.is("firstSign(0, c, 0), the row before had it", x.firstSign(0, 'c', 0), NONE);
        });
        due.test("Promise 25", "UNKNOWN",
                () -> due.texts(TextTest::alike, "firstSign(t, b, 0)", 1, (x, t) -> x.firstSign(t, 'b', 0)));
        due.test("Promise 25", "OUTSIDE: no SIGN", () -> due.signs(() -> with("x\u0000\u00ff"),
                "firstSign(0, s, 0)", 1, 2, (x, s) -> x.firstSign(0, s, 0)));
        due.test("Promise 25", "MISSING",
                () -> missing("firstSign(t, a, 0)", NONE, (x, t) -> x.firstSign(t, 'a', 0)));
    }

    private static void lastSign() {
        due.test("Promise 26", "THE LAST of a SIGN in a TEXT", () -> {
            due.is("lastSign(0, a, MAX)", small().lastSign(0, 'a', MAX), 3);
            due.is("lastSign(0, a, 4)", small().lastSign(0, 'a', 4), 3);
            due.is("lastSign(0, a, 3)", small().lastSign(0, 'a', 3), 3);
            due.is("lastSign(0, a, 2)", small().lastSign(0, 'a', 2), 0);
            due.is("lastSign(0, a, 0)", small().lastSign(0, 'a', 0), 0);
            due.is("lastSign(0, 255, 9)", with("\u0000\u00ffa").lastSign(0, 255, 9), 1);
            due.is("lastSign(0, 0, 9)", with("\u0000\u00ffa").lastSign(0, 0, 9), 0);
        });
        due.test("Promise 26", "NONE", () -> {
            due.is("lastSign(0, a, -1)", small().lastSign(0, 'a', -1), NONE);
            due.is("lastSign(0, a, MIN)", small().lastSign(0, 'a', MIN), NONE);
            due.is("lastSign(0, b, 0)", small().lastSign(0, 'b', 0), NONE);
            due.is("lastSign(0, z, 9)", small().lastSign(0, 'z', 9), NONE);
            due.is("lastSign(1, a, 9), empty", small().lastSign(1, 'a', 9), NONE);
            RowsOfSigns x = small();
            x.trim(4, 0);
            due.is("lastSign(0, c, 9), the row before had it", x.lastSign(0, 'c', 9), NONE);
        });
        due.test("Promise 26", "UNKNOWN",
                () -> due.texts(TextTest::alike, "lastSign(t, b, 9)", 1, (x, t) -> x.lastSign(t, 'b', 9)));
        due.test("Promise 26", "OUTSIDE: no SIGN", () -> due.signs(() -> with("\u0000\u00ffx"),
                "lastSign(0, s, 9)", 0, 1, (x, s) -> x.lastSign(0, s, 9)));
        due.test("Promise 26", "MISSING",
                () -> missing("lastSign(t, a, 9)", NONE, (x, t) -> x.lastSign(t, 'a', 9)));
    }

    /** Text 0 is ababa, text 1 is ab, text 2 is empty, text 3 is longer, text 4 is aba. */
    private static RowsOfSigns sought() {
        return with("ababa", "ab", "", "ababab", "aba");
    }

    private static void firstText() {
        due.test("Promise 27", "THE FIRST of the TEXT u in a TEXT", () -> {
            due.is("firstText(0, 1, 0)", sought().firstText(0, 1, 0), 0);
            due.is("firstText(0, 1, -1)", sought().firstText(0, 1, -1), 0);
            due.is("firstText(0, 1, MIN)", sought().firstText(0, 1, MIN), 0);
            due.is("firstText(0, 1, 1)", sought().firstText(0, 1, 1), 2);
            due.is("firstText(0, 1, 2)", sought().firstText(0, 1, 2), 2);
            due.is("firstText(0, 4, 1), overlapping", sought().firstText(0, 4, 1), 2);
            due.is("firstText(0, 2, 5), empty", sought().firstText(0, 2, 5), 5);
            due.is("firstText(0, 2, 6), empty", sought().firstText(0, 2, 6), 5);
            due.is("firstText(0, 2, MAX), empty", sought().firstText(0, 2, MAX), 5);
            due.is("firstText(0, 2, -1), empty", sought().firstText(0, 2, -1), 0);
            due.is("firstText(2, 2, 1), both empty", sought().firstText(2, 2, 1), 0);
            due.is("firstText(0, 0, 0)", sought().firstText(0, 0, 0), 0);
        });
        due.test("Promise 27", "NONE", () -> {
            due.is("firstText(0, 1, 3)", sought().firstText(0, 1, 3), NONE);
            due.is("firstText(0, 1, MAX)", sought().firstText(0, 1, MAX), NONE);
            due.is("firstText(0, 3, 0), longer", sought().firstText(0, 3, 0), NONE);
            due.is("firstText(2, 1, 0), in an empty one", sought().firstText(2, 1, 0), NONE);
            due.is("firstText(0, 0, 1)", sought().firstText(0, 0, 1), NONE);
        });
        due.test("Promise 27", "UNKNOWN", () -> {
            due.texts(TextTest::alike, "firstText(t, 0, 0)", 0, (x, t) -> x.firstText(t, 0, 0));
            due.texts(TextTest::alike, "firstText(0, u, 0)", 0, (x, u) -> x.firstText(0, u, 0));
        });
        due.test("Promise 27", "MISSING: either", () -> {
            missing("firstText(t, 0, 0)", NONE, (x, t) -> x.firstText(t, 0, 0));
            missing("firstText(0, u, 2)", 2, (x, u) -> x.firstText(0, u, 2));
        });
    }

    private static void lastText() {
        due.test("Promise 28", "THE LAST of the TEXT u in a TEXT", () -> {
            due.is("lastText(0, 1, MAX)", sought().lastText(0, 1, MAX), 2);
            due.is("lastText(0, 1, 3)", sought().lastText(0, 1, 3), 2);
            due.is("lastText(0, 1, 2)", sought().lastText(0, 1, 2), 2);
            due.is("lastText(0, 1, 1)", sought().lastText(0, 1, 1), 0);
            due.is("lastText(0, 1, 0)", sought().lastText(0, 1, 0), 0);
            due.is("lastText(0, 4, 9), overlapping", sought().lastText(0, 4, 9), 2);
            due.is("lastText(0, 2, 6), empty", sought().lastText(0, 2, 6), 5);
            due.is("lastText(0, 2, 5), empty", sought().lastText(0, 2, 5), 5);
            due.is("lastText(0, 2, 0), empty", sought().lastText(0, 2, 0), 0);
            due.is("lastText(2, 2, 1), both empty", sought().lastText(2, 2, 1), 0);
        });
        due.test("Promise 28", "NONE", () -> {
            due.is("lastText(0, 1, -1)", sought().lastText(0, 1, -1), NONE);
            due.is("lastText(0, 1, MIN)", sought().lastText(0, 1, MIN), NONE);
            due.is("lastText(0, 2, -1), empty", sought().lastText(0, 2, -1), NONE);
            due.is("lastText(0, 3, 9), longer", sought().lastText(0, 3, 9), NONE);
            due.is("lastText(2, 1, 9), in an empty one", sought().lastText(2, 1, 9), NONE);
        });
        due.test("Promise 28", "UNKNOWN", () -> {
            due.texts(TextTest::alike, "lastText(t, 0, 0)", 0, (x, t) -> x.lastText(t, 0, 0));
            due.texts(TextTest::alike, "lastText(0, u, 0)", 0, (x, u) -> x.lastText(0, u, 0));
        });
        due.test("Promise 28", "MISSING: either", () -> {
            missing("lastText(t, 0, 9)", NONE, (x, t) -> x.lastText(t, 0, 9));
            missing("lastText(0, u, 2)", 2, (x, u) -> x.lastText(0, u, 2));
        });
    }

    /** Of the texts 0, abcab, and 1, xab. */
    private static void same(int at, int from, int n, int want) {
        String call = "region(0, " + at + ", 1, " + from + ", " + n + ")";
        due.is(call, with("abcab", "xab").region(0, at, 1, from, n), want);
    }

    private static void region() {
        due.test("Promise 29", "1: the n SIGNS of a TEXT from at on, and those of u from from on, are there and "
                + "the same, one by one; 0: not so", () -> {
            same(0, 1, 2, 1);
            same(3, 1, 2, 1);
            same(0, 1, 1, 1);
            same(1, 1, 2, 0);
            same(0, 0, 1, 0);
            same(2, 0, 3, 0);
            due.is("region(0, 0, 1, 0, 3), only the last one is another",
                    with("abc", "abd").region(0, 0, 1, 0, 3), 0);
            due.is("region(0, 0, 1, 0, 2), ahead of it", with("abc", "abd").region(0, 0, 1, 0, 2), 1);
            due.is("region(0, 0, 1, 0, 200)",
                    with("x".repeat(200), "x".repeat(200)).region(0, 0, 1, 0, 200), 1);
            due.is("region(0, 0, 0, 3, 2) of one text", with("abcab").region(0, 0, 0, 3, 2), 1);
        });
        due.test("Promise 29", "It is 0, too, if at or from is below 0", () -> {
            same(0, 1, 0, 1);
            same(-1, 1, 0, 0);
            same(0, 0, 0, 1);
            same(0, -1, 0, 0);
            same(-1, 0, 2, 0);
            same(-1, -1, -1, 0);
            same(MIN, MIN, MAX, 0);
        });
        due.test("Promise 29", "or at and n together are more than how many SIGNS the TEXT has", () -> {
            due.is("region(0, 3, 1, 0, 2)", with("abcab", "abcab").region(0, 3, 1, 0, 2), 1);
            due.is("region(0, 3, 1, 0, 3)", with("abcab", "abcab").region(0, 3, 1, 0, 3), 0);
            due.is("region(0, 1, 1, 0, MAX)", with("abcab", "abcab").region(0, 1, 1, 0, MAX), 0);
            same(5, 0, 0, 1);
            same(6, 0, 0, 0);
            same(MAX, 0, 1, 0);
            same(MAX, 0, 0, 0);
            same(MAX, MAX, 1, 0);
            same(MAX, MAX, MAX, 0);
        });
        due.test("Promise 29", "or from and n than u has", () -> {
            same(0, 1, 2, 1);
            same(0, 1, 3, 0);
            due.is("region(0, 0, 1, 3, 3)", with("abcab", "abcab").region(0, 0, 1, 3, 3), 0);
            same(0, 3, 0, 1);
            same(0, 4, 0, 0);
            same(0, MAX, 1, 0);
            same(0, MAX, 0, 0);
        });
        due.test("Promise 29", "if n is 0 or below, no SIGN is looked at, but these bounds are", () -> {
            same(0, 0, 1, 0);
            same(0, 0, 0, 1);
            same(0, 0, -1, 1);
            same(0, 0, MIN, 1);
            same(9, 0, -4, 1);
            same(10, 0, -4, 0);
            same(0, 7, -4, 1);
            same(0, 8, -4, 0);
            same(MAX, MAX, MIN, 1);
            same(MAX, 0, -MAX + 5, 1);
            same(MAX, 0, -MAX + 6, 0);
            due.is("region(0, 0, 0, 0, 0) of empty texts", with("").region(0, 0, 0, 0, 0), 1);
        });
        due.test("Promise 29", "UNKNOWN", () -> {
            due.texts(TextTest::alike, "region(t, 0, 0, 0, 3)", 1, (x, t) -> x.region(t, 0, 0, 0, 3));
            due.texts(TextTest::alike, "region(0, 0, u, 0, 3)", 1, (x, u) -> x.region(0, 0, u, 0, 3));
        });
        due.test("Promise 29", "MISSING: either", () -> {
            missing("region(t, 0, 0, 0, 0)", 1, (x, t) -> x.region(t, 0, 0, 0, 0));
            missing("region(0, 0, u, 0, 0)", 1, (x, u) -> x.region(0, 0, u, 0, 0));
            missing("region(t, -1, 0, 0, 0)", 0, (x, t) -> x.region(t, -1, 0, 0, 0));
        });
    }

    private static void ordered(String one, String other, int want) {
        String call = " of " + Rows.shown(one) + " and " + Rows.shown(other);
        due.is("order(0, 1)" + call, with(one, other).order(0, 1), want);
        due.is("order(1, 0)" + call, with(one, other).order(1, 0), -want);
    }

    private static void order() {
        due.test("Promise 30", "The ORDER of two TEXTS", () -> {
            ordered("", "", 0);
            ordered("abc", "abc", 0);
            ordered("abc", "abd", -1);
            ordered("abz", "abc", 'z' - 'c');
            ordered("ab", "abc", -1);
            ordered("abc", "", 3);
            ordered("\u0000", "\u00ff", -255);
            ordered("b", "azzz", 1);
            ordered("x".repeat(200), "", 200);
            ordered("x".repeat(199) + "y", "x".repeat(200), 1);
            due.is("order(0, 0)", small().order(0, 0), 0);
        });
        due.test("Promise 30", "UNKNOWN", () -> {
            due.texts(TextTest::alike, "order(t, 0)", 0, (x, t) -> x.order(t, 0));
            due.texts(TextTest::alike, "order(0, u)", 0, (x, u) -> x.order(0, u));
        });
        due.test("Promise 30", "MISSING: either", () -> {
            missing("order(t, 0)", -4, (x, t) -> x.order(t, 0));
            missing("order(0, u)", 4, (x, u) -> x.order(0, u));
        });
    }

    private static void begins() {
        due.test("Promise 31", "1: the TEXT u STANDS in a TEXT at a place; 0: not so", () -> {
            due.is("begins(0, 1, 0)", sought().begins(0, 1, 0), 1);
            due.is("begins(0, 1, 1)", sought().begins(0, 1, 1), 0);
            due.is("begins(0, 1, 2)", sought().begins(0, 1, 2), 1);
            due.is("begins(0, 4, 2), to the end", sought().begins(0, 4, 2), 1);
            due.is("begins(0, 4, 3), beyond the end", sought().begins(0, 4, 3), 0);
            due.is("begins(0, 3, 0), longer", sought().begins(0, 3, 0), 0);
            due.is("begins(0, 0, 0)", sought().begins(0, 0, 0), 1);
            due.is("begins(0, 2, 0), empty", sought().begins(0, 2, 0), 1);
            due.is("begins(0, 2, 3), empty", sought().begins(0, 2, 3), 1);
        });
        due.test("Promise 31", "also if there is no such place", () -> {
            due.is("begins(0, 2, 0), empty", sought().begins(0, 2, 0), 1);
            due.is("begins(0, 2, -1), empty", sought().begins(0, 2, -1), 0);
            due.is("begins(0, 2, 5), empty", sought().begins(0, 2, 5), 1);
            due.is("begins(0, 2, 6), empty", sought().begins(0, 2, 6), 0);
            due.is("begins(2, 2, 0), both empty", sought().begins(2, 2, 0), 1);
            due.is("begins(2, 2, 1), both empty", sought().begins(2, 2, 1), 0);
            due.is("begins(0, 1, -1)", sought().begins(0, 1, -1), 0);
            due.is("begins(0, 1, MIN)", sought().begins(0, 1, MIN), 0);
            due.is("begins(0, 1, MAX)", sought().begins(0, 1, MAX), 0);
        });
        due.test("Promise 31", "UNKNOWN", () -> {
            due.texts(TextTest::alike, "begins(t, 0, 0)", 1, (x, t) -> x.begins(t, 0, 0));
            due.texts(TextTest::alike, "begins(0, u, 0)", 1, (x, u) -> x.begins(0, u, 0));
        });
        due.test("Promise 31", "MISSING: either", () -> {
            missing("begins(t, 0, 0)", 0, (x, t) -> x.begins(t, 0, 0));
            missing("begins(0, u, 0)", 1, (x, u) -> x.begins(0, u, 0));
            missing("begins(0, u, -1)", 0, (x, u) -> x.begins(0, u, -1));
        });
    }

    private static void swap() {
        due.test("Promise 32", "The TEXT into becomes a TEXT, each SIGN old being another one, with, in it: "
                + "how many SIGNS it has", () -> {
            makes(small(), "swap(0, a, z, 5)", x -> x.swap(0, 'a', 'z', 5), 5, "zbcz");
            makes(small(), "swap(0, b, a, 4)", x -> x.swap(0, 'b', 'a', 4), 4, "aaca");
            makes(small(), "swap(0, a, z, 0)", x -> x.swap(0, 'a', 'z', 0), 0, "zbcz");
            makes(small(), "swap(0, z, a, 2), none is there", x -> x.swap(0, 'z', 'a', 2), 2, "abca");
            makes(small(), "swap(0, a, a, 2)", x -> x.swap(0, 'a', 'a', 2), 2, "abca");
            makes(small(), "swap(1, a, z, 0), empty", x -> x.swap(1, 'a', 'z', 0), 0, "");
            RowsOfSigns x = small();
            x.swap(0, 'a', 'z', 5);
            due.is("swap(0, a, z, 5), the text stays", Rows.text(x, 0), "abca");
        });
        due.test("Promise 32", "UNKNOWN", () -> {
            due.texts(TextTest::alike, "swap(t, a, b, 5)", 3, (x, t) -> x.swap(t, 'a', 'b', 5));
            due.texts(TextTest::alike, "swap(0, a, b, into)", 3, (x, into) -> x.swap(0, 'a', 'b', into));
        });
        due.test("Promise 32", "OUTSIDE: no SIGN", () -> {
            due.signs(TextTest::small, "swap(0, old, b, 5)", 4, 4, (x, old) -> x.swap(0, old, 'b', 5));
            due.signs(TextTest::small, "swap(0, a, with, 5)", 4, 4, (x, with) -> x.swap(0, 'a', with, 5));
            makes(with("a\u0000\u00ff"), "swap(0, 0, 255, 0)", x -> x.swap(0, 0, 255, 0), 0, "a\u00ff\u00ff");
            makes(with("a\u0000\u00ff"), "swap(0, 255, 0, 0)", x -> x.swap(0, 255, 0, 0), 0, "a\u0000\u0000");
        });
        due.test("Promise 32", "MISSING: t", () -> {
            missing("swap(t, a, b, 0)", 0, (x, t) -> x.swap(t, 'a', 'b', 0));
            makes(small(), "swap(0, a, z, 3), into a missing one", x -> x.swap(0, 'a', 'z', 3), 3, "zbcz");
        });
    }

    private static void sub() {
        due.test("Promise 33", "The TEXT into becomes the SIGNS of a TEXT FROM one place TO another one: "
                + "how many these are", () -> {
            makes(small(), "sub(0, 0, 4, 5)", x -> x.sub(0, 0, 4, 5), 5, "abca");
            makes(small(), "sub(0, 1, 3, 4)", x -> x.sub(0, 1, 3, 4), 4, "bc");
            makes(small(), "sub(0, 1, 3, 0)", x -> x.sub(0, 1, 3, 0), 0, "bc");
            makes(small(), "sub(0, 3, 4, 2)", x -> x.sub(0, 3, 4, 2), 2, "a");
            makes(small(), "sub(0, 2, 2, 0)", x -> x.sub(0, 2, 2, 0), 0, "");
            RowsOfSigns x = small();
            x.sub(0, 1, 3, 4);
            due.is("sub(0, 1, 3, 4), the text stays", Rows.text(x, 0), "abca");
        });
        due.test("Promise 33", "UNKNOWN", () -> {
            due.texts(TextTest::alike, "sub(t, 0, 2, 5)", 2, (x, t) -> x.sub(t, 0, 2, 5));
            due.texts(TextTest::alike, "sub(0, 0, 2, into)", 2, (x, into) -> x.sub(0, 0, 2, into));
        });
        due.test("Promise 33", "MISSING: t", () -> {
            missing("sub(t, 0, 0, 4)", 0, (x, t) -> x.sub(t, 0, 0, 4));
            makes(small(), "sub(0, 0, 2, 3), into a missing one", x -> x.sub(0, 0, 2, 3), 3, "ab");
        });
        due.test("Promise 33", "PLACE: from below 0", () -> due.bounds(TextTest::small, "sub(0, from, 4, 5)",
                0, 4, 4, 0, PLACE, (x, from) -> x.sub(0, from, 4, 5)));
        due.test("Promise 33", "to above how many SIGNS there are", () -> {
            due.bounds(TextTest::small, "sub(0, 0, to, 5)", 0, 0, 4, 4, PLACE, (x, to) -> x.sub(0, 0, to, 5));
            due.bounds(TextTest::small, "sub(1, 0, to, 5), empty", 0, 0, 0, 0, PLACE, (x, to) -> x.sub(1, 0, to, 5));
            due.refused(TextTest::small, "sub(0, 5, 5, 0)", PLACE, x -> x.sub(0, 5, 5, 0));
        });
        due.test("Promise 33", "from above to", () -> {
            due.is("sub(0, 2, 2, 5)", small().sub(0, 2, 2, 5), 0);
            due.refused(TextTest::small, "sub(0, 2, 1, 5), missing", PLACE, x -> x.sub(0, 2, 1, 5));
            due.refused(TextTest::small, "sub(0, 2, 1, 0)", PLACE, x -> x.sub(0, 2, 1, 0));
            due.refused(TextTest::small, "sub(0, MAX, MIN, 0)", PLACE, x -> x.sub(0, MAX, MIN, 0));
        });
    }

    private static void trimmed(String text, String want) {
        makes(with(text), "trim(0, 1) of " + Rows.shown(text), x -> x.trim(0, 1), 1, want);
        makes(with(text), "trim(0, 0) of " + Rows.shown(text), x -> x.trim(0, 0), 0, want);
    }

    private static void trim() {
        due.test("Promise 34", "The TEXT into becomes a TEXT without the SIGNS 0 to 32 at its beginning and its end: "
                + "how many SIGNS it has", () -> {
            trimmed("abc", "abc");
            trimmed("  abc", "abc");
            trimmed("abc  ", "abc");
            trimmed(" a b ", "a b");
            trimmed("\u0000a\u0000", "a");
            trimmed("\u001fa\u001f", "a");
            trimmed("\u0020a\u0020", "a");
            trimmed("!a!", "!a!");
            trimmed("\u00ff\u007f\u00a0", "\u00ff\u007f\u00a0");
            trimmed("", "");
            trimmed(" ", "");
            trimmed("\u0000\u0020", "");
            trimmed(" ".repeat(200), "");
            trimmed(" ".repeat(100) + "!" + " ".repeat(99), "!");
            for (int sign = 0; sign < 256; sign++) {
                String text = (char) sign + "a" + (char) sign;
                trimmed(text, sign <= 32 ? "a" : text);
            }
            RowsOfSigns x = with(" a ", "b");
            x.trim(0, 1);
            due.is("trim(0, 1), the text stays", Rows.text(x, 0), " a ");
        });
        due.test("Promise 34", "UNKNOWN", () -> {
            due.texts(TextTest::alike, "trim(t, 5)", 3, (x, t) -> x.trim(t, 5));
            due.texts(TextTest::alike, "trim(0, into)", 3, (x, into) -> x.trim(0, into));
        });
        due.test("Promise 34", "MISSING: t", () -> {
            missing("trim(t, 4)", 0, (x, t) -> x.trim(t, 4));
            makes(small(), "trim(0, 3), into a missing one", x -> x.trim(0, 3), 3, "abca");
        });
    }

    private static void repeat() {
        due.test("Promise 35", "The TEXT into becomes n times a TEXT, one behind the other: "
                + "how many SIGNS it has", () -> {
            makes(small(), "repeat(4, 0, 5)", x -> x.repeat(4, 0, 5), 5, "");
            makes(small(), "repeat(4, 1, 5)", x -> x.repeat(4, 1, 5), 5, "ab");
            makes(small(), "repeat(4, 2, 0)", x -> x.repeat(4, 2, 0), 0, "abab");
            makes(small(), "repeat(4, 3, 4)", x -> x.repeat(4, 3, 4), 4, "ababab");
            makes(small(), "repeat(1, 0, 0), empty", x -> x.repeat(1, 0, 0), 0, "");
            makes(small(), "repeat(1, 1, 0), empty", x -> x.repeat(1, 1, 0), 0, "");
            makes(small(), "repeat(1, MAX, 2), empty", x -> x.repeat(1, MAX, 2), 2, "");
            RowsOfSigns x = small();
            x.repeat(4, 3, 0);
            due.is("repeat(4, 3, 0), the text stays", Rows.text(x, 4), "ab");
        });
        due.test("Promise 35", "UNKNOWN", () -> {
            due.texts(TextTest::alike, "repeat(t, 2, 5)", 6, (x, t) -> x.repeat(t, 2, 5));
            due.texts(TextTest::alike, "repeat(0, 2, into)", 6, (x, into) -> x.repeat(0, 2, into));
        });
        due.test("Promise 35", "MISSING: t", () -> {
            missing("repeat(t, 2, 0)", 0, (x, t) -> x.repeat(t, 2, 0));
            makes(small(), "repeat(4, 2, 3), into a missing one", x -> x.repeat(4, 2, 3), 3, "abab");
        });
        due.test("Promise 35", "COUNT", () -> {
            due.is("repeat(0, 0, 4)", small().repeat(0, 0, 4), 0);
            due.refused(TextTest::small, "repeat(0, -1, 4)", COUNT, x -> x.repeat(0, -1, 4));
            due.refused(TextTest::small, "repeat(0, MIN, 4)", COUNT, x -> x.repeat(0, MIN, 4));
            due.refused(TextTest::small, "repeat(1, -1, 2), empty", COUNT, x -> x.repeat(1, -1, 2));
        });
        due.test("Promise 35", "FULL", () -> {
            makes(with("x"), "repeat(0, 200, 1)", x -> x.repeat(0, 200, 1), 1, "x".repeat(200));
            due.refused(() -> with("x", "y"), "repeat(0, 201, 1)", FULL, x -> x.repeat(0, 201, 1));
            makes(small(), "repeat(4, 100, 4)", x -> x.repeat(4, 100, 4), 4, "ab".repeat(100));
            due.refused(TextTest::small, "repeat(4, 101, 4)", FULL, x -> x.repeat(4, 101, 4));
            due.is("repeat(0, 66, 1) of three", with("xyz").repeat(0, 66, 1), 198);
            due.refused(() -> with("xyz"), "repeat(0, 67, 1) of three", FULL, x -> x.repeat(0, 67, 1));
            due.is("repeat(0, 1, 0) of 200", with("x".repeat(200)).repeat(0, 1, 0), 200);
            due.refused(() -> with("x".repeat(200)), "repeat(0, 2, 0) of 200", FULL, x -> x.repeat(0, 2, 0));
            due.refused(TextTest::small, "repeat(0, MAX, 4)", FULL, x -> x.repeat(0, MAX, 4));
            due.refused(TextTest::small, "repeat(0, 1 << 30, 4)", FULL, x -> x.repeat(0, 1 << 30, 4));
        });
    }

    private static void join() {
        due.test("Promise 36", "The TEXT into becomes a TEXT and u behind it: how many SIGNS it has", () -> {
            makes(small(), "join(0, 4, 5)", x -> x.join(0, 4, 5), 5, "abcaab");
            makes(small(), "join(4, 0, 5)", x -> x.join(4, 0, 5), 5, "ababca");
            makes(small(), "join(0, 4, 0)", x -> x.join(0, 4, 0), 0, "abcaab");
            makes(small(), "join(0, 4, 4)", x -> x.join(0, 4, 4), 4, "abcaab");
            makes(small(), "join(4, 4, 4)", x -> x.join(4, 4, 4), 4, "abab");
            makes(small(), "join(0, 1, 5)", x -> x.join(0, 1, 5), 5, "abca");
            makes(small(), "join(1, 0, 5)", x -> x.join(1, 0, 5), 5, "abca");
            makes(small(), "join(1, 1, 0), both empty", x -> x.join(1, 1, 0), 0, "");
            RowsOfSigns x = small();
            x.join(0, 4, 5);
            due.is("join(0, 4, 5), the text stays", Rows.text(x, 0), "abca");
            due.is("join(0, 4, 5), u stays", Rows.text(x, 4), "ab");
        });
        due.test("Promise 36", "UNKNOWN", () -> {
            due.texts(TextTest::alike, "join(t, 0, 5)", 6, (x, t) -> x.join(t, 0, 5));
            due.texts(TextTest::alike, "join(0, u, 5)", 6, (x, u) -> x.join(0, u, 5));
            due.texts(TextTest::alike, "join(0, 0, into)", 6, (x, into) -> x.join(0, 0, into));
        });
        due.test("Promise 36", "MISSING: t, u", () -> {
            missing("join(t, 0, 5)", 4, (x, t) -> x.join(t, 0, 5));
            missing("join(0, u, 5)", 4, (x, u) -> x.join(0, u, 5));
            makes(small(), "join(0, 4, 3), into a missing one", x -> x.join(0, 4, 3), 3, "abcaab");
        });
        due.test("Promise 36", "FULL", () -> {
            String many = "x".repeat(198);
            makes(with(many, "ab"), "join(0, 1, 2) to 200", x -> x.join(0, 1, 2), 2, many + "ab");
            makes(with(many, "ab"), "join(1, 0, 1) to 200", x -> x.join(1, 0, 1), 1, "ab" + many);
            due.refused(() -> with(many, "abc"), "join(0, 1, 2) to 201", FULL, x -> x.join(0, 1, 2));
            due.refused(() -> with(many, "abc"), "join(1, 0, 1) to 201", FULL, x -> x.join(1, 0, 1));
            due.is("join(0, 1, 0) of 200 and none", with(many + "ab", "").join(0, 1, 0), 200);
            due.refused(() -> with(many + "ab"), "join(0, 0, 0) to 400", FULL, x -> x.join(0, 0, 0));
        });
    }
}
