/** Promises 1 to 21: a new object, and what is done to builders; a test of each sentence. */
public final class BuilderTest {
    private static final Due due = Due.ofPromises(1, 21);
    private static final int MIN = Integer.MIN_VALUE;
    private static final int MAX = Integer.MAX_VALUE;
    private static final int NONE = -1, UNKNOWN = -1001, MISSING = -1003, COUNT = -1004, PLACE = -1005, FULL = -1007;

    public static void main(String[] args) {
        newObject();
        sign();
        signs();
        text();
        part();
        number();
        insert();
        insertPart();
        insertSign();
        delete();
        deleteAt();
        replace();
        reverse();
        put();
        length();
        at();
        size();
        first();
        last();
        take();
        ahead();
        due.end();
    }

    /** Builder 0 is abc; text 0 is UVW, text 1 is empty, text 2 is missing, text 3 was forgotten. */
    private static RowsOfSigns small() {
        return holding("abc");
    }

    private static RowsOfSigns holding(String builder0) {
        RowsOfSigns x = Rows.with(builder0, "UVW", "", null, "gone");
        x.forget(3);
        return x;
    }

    private static RowsOfSigns alike() {
        return Rows.alike("abc");
    }

    /** The call lets builder 0 grow by so many signs: to 200 it does, to 201 it is refused. */
    private static void full(String call, int growth, Due.Call made) {
        due.is(call + " to 200", made.on(holding("x".repeat(200 - growth))), 200);
        due.refused(() -> holding("x".repeat(201 - growth)), call + " to 201", FULL, made);
    }

    /** What the call answers, and what it leaves in builder 0. */
    private static void leaves(RowsOfSigns x, String call, Due.Call made, int want, String row) {
        due.is(call, made.on(x), want);
        due.is(call, Rows.builder(x, 0), row);
    }

    private static void newObject() {
        due.test("Promise 1", "All as at first", () -> {
            RowsOfSigns x = new RowsOfSigns();
            for (int b = 0; b < 4; b++) {
                due.is("size(" + b + ")", x.size(b), 0);
            }
            for (int t = 0; t < 8; t++) {
                due.is("textSize(" + t + ")", x.textSize(t), NONE);
            }
            due.is("parts()", x.parts(), 0);
            due.is("left(0)", x.left(0), MISSING);
            due.is("left(1)", x.left(1), MISSING);
            long before = x.digest();
            RowsOfSigns y = alike();
            y.split(0, 'b', 0);
            due.is("digest() when another object was changed", x.digest(), before);
            due.is("digest() of one more object", new RowsOfSigns().digest(), before);
        });
    }

    private static void sign() {
        due.test("Promise 2", "A SIGN is appended: how many there are then", () -> {
            RowsOfSigns x = new RowsOfSigns();
            leaves(x, "sign(0, 97)", y -> y.sign(0, 'a'), 1, "a");
            leaves(x, "sign(0, 98)", y -> y.sign(0, 'b'), 2, "ab");
            due.is("size(1)", x.size(1), 0);
        });
        due.test("Promise 2", "UNKNOWN",
                () -> due.builders(BuilderTest::alike, "sign(b, 97)", 4, (x, b) -> x.sign(b, 97)));
        due.test("Promise 2", "OUTSIDE: no SIGN", () -> {
            due.signs(BuilderTest::small, "sign(0, s)", 4, 4, (x, s) -> x.sign(0, s));
            leaves(small(), "sign(0, 0)", x -> x.sign(0, 0), 4, "abc\u0000");
            leaves(small(), "sign(0, 255)", x -> x.sign(0, 255), 4, "abc\u00ff");
        });
        due.test("Promise 2", "FULL", () -> full("sign(0, 97)", 1, x -> x.sign(0, 97)));
    }

    private static void signs() {
        due.test("Promise 3", "n SIGNS (0 to 8) are appended, the lowest n bytes of letters, "
                + "the highest of these first: how many there are then", () -> {
            RowsOfSigns x = new RowsOfSigns();
            leaves(x, "signs(0, 0, ..)", y -> y.signs(0, 0, 0x616263L), 0, "");
            leaves(x, "signs(0, 1, ..)", y -> y.signs(0, 1, 0x616263L), 1, "c");
            leaves(x, "signs(0, 2, ..)", y -> y.signs(0, 2, 0x616263L), 3, "cbc");
            leaves(x, "signs(0, 4, ..)", y -> y.signs(0, 4, 0x616263L), 7, "cbc\u0000abc");
            x.length(0, 0);
            leaves(x, "signs(0, 8, ..)", y -> y.signs(0, 8, 0x4142434445464748L), 8, "ABCDEFGH");
            x.length(0, 0);
            leaves(x, "signs(0, 7, ..)", y -> y.signs(0, 7, 0x4142434445464748L), 7, "BCDEFGH");
            x.length(0, 0);
            leaves(x, "signs(0, 8, -2)", y -> y.signs(0, 8, -2), 8, "\u00ff".repeat(7) + "\u00fe");
            x.length(0, 0);
            leaves(x, "signs(0, 8, lowest)", y -> y.signs(0, 8, Long.MIN_VALUE), 8, "\u0080" + "\u0000".repeat(7));
        });
        due.test("Promise 3", "UNKNOWN",
                () -> due.builders(BuilderTest::alike, "signs(b, 2, ..)", 5, (x, b) -> x.signs(b, 2, 0x6162L)));
        due.test("Promise 3", "OUTSIDE: n", () -> due.bounds(BuilderTest::small, "signs(0, n, -1)", 0, 3, 8, 11,
                Due.OUTSIDE, (x, n) -> x.signs(0, n, -1)));
        due.test("Promise 3", "FULL", () -> {
            full("signs(0, 1, ..)", 1, x -> x.signs(0, 1, 0x6162L));
            full("signs(0, 8, ..)", 8, x -> x.signs(0, 8, 0x6162L));
            due.is("signs(0, 0, ..) at 200", holding("x".repeat(200)).signs(0, 0, 0x6162L), 200);
        });
    }

    private static void text() {
        due.test("Promise 4", "A TEXT is appended: how many there are then", () -> {
            RowsOfSigns x = small();
            leaves(x, "text(0, 0)", y -> y.text(0, 0), 6, "abcUVW");
            leaves(x, "text(0, 1), empty", y -> y.text(0, 1), 6, "abcUVW");
            due.is("the text", Rows.text(x, 0), "UVW");
        });
        due.test("Promise 4", "UNKNOWN", () -> {
            due.builders(BuilderTest::alike, "text(b, 0)", 6, (x, b) -> x.text(b, 0));
            due.texts(BuilderTest::alike, "text(0, t)", 6, (x, t) -> x.text(0, t));
        });
        due.test("Promise 4", "FULL", () -> {
            full("text(0, 0)", 3, x -> x.text(0, 0));
            full("text(0, 2), missing", 4, x -> x.text(0, 2));
            due.is("text(0, 1), empty, at 200", holding("x".repeat(200)).text(0, 1), 200);
        });
    }

    private static void part() {
        due.test("Promise 5", "The SIGNS FROM one place TO another one of a TEXT are appended: "
                + "how many there are then", () -> {
            leaves(small(), "part(0, 0, 1, 2)", x -> x.part(0, 0, 1, 2), 4, "abcV");
            leaves(small(), "part(0, 0, 0, 3)", x -> x.part(0, 0, 0, 3), 6, "abcUVW");
            leaves(small(), "part(0, 0, 1, 3)", x -> x.part(0, 0, 1, 3), 5, "abcVW");
            leaves(small(), "part(0, 0, 3, 3)", x -> x.part(0, 0, 3, 3), 3, "abc");
            leaves(small(), "part(0, 1, 0, 0), empty", x -> x.part(0, 1, 0, 0), 3, "abc");
        });
        due.test("Promise 5", "UNKNOWN", () -> {
            due.builders(BuilderTest::alike, "part(b, 0, 1, 2)", 4, (x, b) -> x.part(b, 0, 1, 2));
            due.texts(BuilderTest::alike, "part(0, t, 1, 2)", 4, (x, t) -> x.part(0, t, 1, 2));
        });
        due.test("Promise 5", "PLACE: from below 0", () -> due.bounds(BuilderTest::small, "part(0, 0, from, 3)",
                0, 6, 3, 3, PLACE, (x, from) -> x.part(0, 0, from, 3)));
        due.test("Promise 5", "to above how many SIGNS the TEXT has", () -> {
            due.bounds(BuilderTest::small, "part(0, 0, 0, to)", 0, 3, 3, 6, PLACE, (x, to) -> x.part(0, 0, 0, to));
            due.bounds(BuilderTest::small, "part(0, 1, 0, to)", 0, 3, 0, 3, PLACE, (x, to) -> x.part(0, 1, 0, to));
            due.refused(BuilderTest::small, "part(0, 0, 4, 4)", PLACE, x -> x.part(0, 0, 4, 4));
        });
        due.test("Promise 5", "from above to", () -> {
            leaves(small(), "part(0, 0, 2, 2)", x -> x.part(0, 0, 2, 2), 3, "abc");
            due.refused(BuilderTest::small, "part(0, 0, 3, 2)", PLACE, x -> x.part(0, 0, 3, 2));
            due.refused(BuilderTest::small, "part(0, 0, MAX, MIN)", PLACE, x -> x.part(0, 0, MAX, MIN));
        });
        due.test("Promise 5", "FULL", () -> {
            full("part(0, 0, 0, 3)", 3, x -> x.part(0, 0, 0, 3));
            full("part(0, 0, 2, 3)", 1, x -> x.part(0, 0, 2, 3));
            due.is("part(0, 0, 3, 3) at 200", holding("x".repeat(200)).part(0, 0, 3, 3), 200);
        });
    }

    private static void number() {
        due.test("Promise 6", "A number, as SIGNS, is appended: how many there are then", () -> {
            leaves(small(), "number(0, 0)", x -> x.number(0, 0), 4, "abc0");
            leaves(small(), "number(0, -10)", x -> x.number(0, -10), 6, "abc-10");
            leaves(small(), "number(0, highest)", x -> x.number(0, Long.MAX_VALUE), 22, "abc9223372036854775807");
            leaves(small(), "number(0, lowest)", x -> x.number(0, Long.MIN_VALUE), 23, "abc-9223372036854775808");
        });
        due.test("Promise 6", "UNKNOWN",
                () -> due.builders(BuilderTest::alike, "number(b, 10)", 5, (x, b) -> x.number(b, 10)));
        due.test("Promise 6", "FULL", () -> {
            full("number(0, 0)", 1, x -> x.number(0, 0));
            full("number(0, 10)", 2, x -> x.number(0, 10));
            full("number(0, -1)", 2, x -> x.number(0, -1));
            full("number(0, lowest)", 20, x -> x.number(0, Long.MIN_VALUE));
        });
    }

    private static void insert() {
        due.test("Promise 7", "A TEXT is joined in at a place: how many there are then", () -> {
            leaves(small(), "insert(0, 0, 0)", x -> x.insert(0, 0, 0), 6, "UVWabc");
            leaves(small(), "insert(0, 1, 0)", x -> x.insert(0, 1, 0), 6, "aUVWbc");
            leaves(small(), "insert(0, 3, 0)", x -> x.insert(0, 3, 0), 6, "abcUVW");
            leaves(small(), "insert(0, 1, 1), empty", x -> x.insert(0, 1, 1), 3, "abc");
        });
        due.test("Promise 7", "UNKNOWN", () -> {
            due.builders(BuilderTest::alike, "insert(b, 1, 0)", 6, (x, b) -> x.insert(b, 1, 0));
            due.texts(BuilderTest::alike, "insert(0, 1, t)", 6, (x, t) -> x.insert(0, 1, t));
        });
        due.test("Promise 7", "PLACE: below 0, above how many SIGNS there were", () -> {
            due.bounds(BuilderTest::small, "insert(0, at, 0)", 0, 6, 3, 6, PLACE, (x, at) -> x.insert(0, at, 0));
            due.bounds(BuilderTest::small, "insert(0, at, 1), empty", 0, 3, 3, 3, PLACE,
                    (x, at) -> x.insert(0, at, 1));
            due.bounds(BuilderTest::small, "insert(1, at, 0), empty", 0, 3, 0, 3, PLACE,
                    (x, at) -> x.insert(1, at, 0));
        });
        due.test("Promise 7", "FULL", () -> {
            full("insert(0, 0, 0)", 3, x -> x.insert(0, 0, 0));
            full("insert(0, 196, 0)", 3, x -> x.insert(0, 196, 0));
            full("insert(0, 9, 2), missing", 4, x -> x.insert(0, 9, 2));
            due.is("insert(0, 9, 1), empty, at 200", holding("x".repeat(200)).insert(0, 9, 1), 200);
        });
    }

    private static void insertPart() {
        due.test("Promise 8", "The SIGNS FROM one place TO another one of a TEXT are joined in at a place: "
                + "how many there are then", () -> {
            leaves(small(), "insertPart(0, 0, 0, 0, 2)", x -> x.insertPart(0, 0, 0, 0, 2), 5, "UVabc");
            leaves(small(), "insertPart(0, 2, 0, 1, 3)", x -> x.insertPart(0, 2, 0, 1, 3), 5, "abVWc");
            leaves(small(), "insertPart(0, 3, 0, 0, 3)", x -> x.insertPart(0, 3, 0, 0, 3), 6, "abcUVW");
            leaves(small(), "insertPart(0, 1, 0, 3, 3)", x -> x.insertPart(0, 1, 0, 3, 3), 3, "abc");
        });
        due.test("Promise 8", "UNKNOWN", () -> {
            due.builders(BuilderTest::alike, "insertPart(b, 1, 0, 1, 2)", 4, (x, b) -> x.insertPart(b, 1, 0, 1, 2));
            due.texts(BuilderTest::alike, "insertPart(0, 1, t, 1, 2)", 4, (x, t) -> x.insertPart(0, 1, t, 1, 2));
        });
        due.test("Promise 8", "PLACE: as of insert()", () -> {
            due.bounds(BuilderTest::small, "insertPart(0, at, 0, 1, 2)", 0, 4, 3, 4, PLACE,
                    (x, at) -> x.insertPart(0, at, 0, 1, 2));
            due.bounds(BuilderTest::small, "insertPart(0, at, 0, 1, 1)", 0, 3, 3, 3, PLACE,
                    (x, at) -> x.insertPart(0, at, 0, 1, 1));
        });
        due.test("Promise 8", "as of part()", () -> {
            due.bounds(BuilderTest::small, "insertPart(0, 1, 0, from, 3)", 0, 6, 3, 3, PLACE,
                    (x, from) -> x.insertPart(0, 1, 0, from, 3));
            due.bounds(BuilderTest::small, "insertPart(0, 1, 0, 0, to)", 0, 3, 3, 6, PLACE,
                    (x, to) -> x.insertPart(0, 1, 0, 0, to));
            due.is("insertPart(0, 1, 0, 2, 2)", small().insertPart(0, 1, 0, 2, 2), 3);
            due.refused(BuilderTest::small, "insertPart(0, 1, 0, 3, 2)", PLACE, x -> x.insertPart(0, 1, 0, 3, 2));
            due.refused(BuilderTest::small, "insertPart(0, 1, 0, 4, 4)", PLACE, x -> x.insertPart(0, 1, 0, 4, 4));
        });
        due.test("Promise 8", "FULL", () -> {
            full("insertPart(0, 0, 0, 0, 3)", 3, x -> x.insertPart(0, 0, 0, 0, 3));
            full("insertPart(0, 199, 0, 2, 3)", 1, x -> x.insertPart(0, 199, 0, 2, 3));
            due.is("insertPart(0, 9, 0, 1, 1) at 200", holding("x".repeat(200)).insertPart(0, 9, 0, 1, 1), 200);
        });
    }

    private static void insertSign() {
        due.test("Promise 9", "A SIGN is joined in at a place: how many there are then", () -> {
            leaves(small(), "insertSign(0, 0, 85)", x -> x.insertSign(0, 0, 'U'), 4, "Uabc");
            leaves(small(), "insertSign(0, 1, 85)", x -> x.insertSign(0, 1, 'U'), 4, "aUbc");
            leaves(small(), "insertSign(0, 3, 85)", x -> x.insertSign(0, 3, 'U'), 4, "abcU");
        });
        due.test("Promise 9", "UNKNOWN",
                () -> due.builders(BuilderTest::alike, "insertSign(b, 1, 97)", 4, (x, b) -> x.insertSign(b, 1, 97)));
        due.test("Promise 9", "OUTSIDE: no SIGN", () -> {
            due.signs(BuilderTest::small, "insertSign(0, 1, s)", 4, 4, (x, s) -> x.insertSign(0, 1, s));
            leaves(small(), "insertSign(0, 1, 0)", x -> x.insertSign(0, 1, 0), 4, "a\u0000bc");
            leaves(small(), "insertSign(0, 1, 255)", x -> x.insertSign(0, 1, 255), 4, "a\u00ffbc");
        });
        due.test("Promise 9", "PLACE: as of insert()", () -> {
            due.bounds(BuilderTest::small, "insertSign(0, at, 97)", 0, 4, 3, 4, PLACE,
                    (x, at) -> x.insertSign(0, at, 97));
            due.bounds(BuilderTest::small, "insertSign(1, at, 97), empty", 0, 1, 0, 1, PLACE,
                    (x, at) -> x.insertSign(1, at, 97));
        });
        due.test("Promise 9", "FULL", () -> {
            full("insertSign(0, 0, 97)", 1, x -> x.insertSign(0, 0, 97));
            full("insertSign(0, 199, 97)", 1, x -> x.insertSign(0, 199, 97));
        });
    }

    private static void delete() {
        due.test("Promise 10", "The SIGNS FROM one place TO another one are dropped: how many are left", () -> {
            leaves(small(), "delete(0, 1, 2)", x -> x.delete(0, 1, 2), 2, "ac");
            leaves(small(), "delete(0, 0, 2)", x -> x.delete(0, 0, 2), 1, "c");
            leaves(small(), "delete(0, 1, 3)", x -> x.delete(0, 1, 3), 1, "a");
            leaves(small(), "delete(0, 0, 3)", x -> x.delete(0, 0, 3), 0, "");
            leaves(small(), "delete(0, 1, 1)", x -> x.delete(0, 1, 1), 3, "abc");
        });
        due.test("Promise 10", "UNKNOWN",
                () -> due.builders(BuilderTest::alike, "delete(b, 1, 2)", 2, (x, b) -> x.delete(b, 1, 2)));
        due.test("Promise 10", "PLACE: from below 0", () -> due.bounds(BuilderTest::small, "delete(0, from, 3)",
                0, 0, 3, 3, PLACE, (x, from) -> x.delete(0, from, 3)));
        due.test("Promise 10", "above how many SIGNS there are", () -> {
            due.bounds(BuilderTest::small, "delete(0, from, MAX)", 0, 0, 3, 3, PLACE,
                    (x, from) -> x.delete(0, from, MAX));
            due.is("delete(1, 0, 1), empty", small().delete(1, 0, 1), 0);
            due.refused(BuilderTest::small, "delete(1, 1, 1), empty", PLACE, x -> x.delete(1, 1, 1));
            due.refused(BuilderTest::small, "delete(0, 4, 4)", PLACE, x -> x.delete(0, 4, 4));
        });
        due.test("Promise 10", "above to as it is told", () -> {
            leaves(small(), "delete(0, 2, 2)", x -> x.delete(0, 2, 2), 3, "abc");
            due.refused(BuilderTest::small, "delete(0, 2, 1)", PLACE, x -> x.delete(0, 2, 1));
            due.refused(BuilderTest::small, "delete(0, 0, -1)", PLACE, x -> x.delete(0, 0, -1));
            due.refused(BuilderTest::small, "delete(0, 0, MIN)", PLACE, x -> x.delete(0, 0, MIN));
            leaves(small(), "delete(0, 3, 4)", x -> x.delete(0, 3, 4), 3, "abc");
            due.refused(BuilderTest::small, "delete(0, 3, 2)", PLACE, x -> x.delete(0, 3, 2));
            due.refused(BuilderTest::small, "delete(0, 5, 4)", PLACE, x -> x.delete(0, 5, 4));
        });
    }

    private static void deleteAt() {
        due.test("Promise 11", "The SIGN at a place is dropped: how many are left", () -> {
            leaves(small(), "deleteAt(0, 0)", x -> x.deleteAt(0, 0), 2, "bc");
            leaves(small(), "deleteAt(0, 1)", x -> x.deleteAt(0, 1), 2, "ac");
            leaves(small(), "deleteAt(0, 2)", x -> x.deleteAt(0, 2), 2, "ab");
            leaves(holding("a"), "deleteAt(0, 0) of one", x -> x.deleteAt(0, 0), 0, "");
        });
        due.test("Promise 11", "UNKNOWN",
                () -> due.builders(BuilderTest::alike, "deleteAt(b, 0)", 2, (x, b) -> x.deleteAt(b, 0)));
        due.test("Promise 11", "PLACE: there is none", () -> {
            due.bounds(BuilderTest::small, "deleteAt(0, at)", 0, 2, 2, 2, PLACE, (x, at) -> x.deleteAt(0, at));
            due.refused(BuilderTest::small, "deleteAt(1, 0), empty", PLACE, x -> x.deleteAt(1, 0));
        });
    }

    private static void replace() {
        due.test("Promise 12", "The SIGNS FROM one place TO another one are dropped, and a TEXT is joined in there: "
                + "how many there are then", () -> {
            leaves(small(), "replace(0, 1, 2, 0)", x -> x.replace(0, 1, 2, 0), 5, "aUVWc");
            leaves(small(), "replace(0, 0, 3, 0)", x -> x.replace(0, 0, 3, 0), 3, "UVW");
            leaves(small(), "replace(0, 1, 1, 0), none dropped", x -> x.replace(0, 1, 1, 0), 6, "aUVWbc");
            leaves(small(), "replace(0, 3, 3, 0), at the end", x -> x.replace(0, 3, 3, 0), 6, "abcUVW");
        });
        due.test("Promise 12", "UNKNOWN", () -> {
            due.builders(BuilderTest::alike, "replace(b, 1, 2, 0)", 5, (x, b) -> x.replace(b, 1, 2, 0));
            due.texts(BuilderTest::alike, "replace(0, 1, 2, t)", 5, (x, t) -> x.replace(0, 1, 2, t));
        });
        due.test("Promise 12", "MISSING", () -> {
            leaves(small(), "replace(0, 1, 2, 1), empty", x -> x.replace(0, 1, 2, 1), 2, "ac");
            due.refused(BuilderTest::small, "replace(0, 1, 2, 2)", MISSING, x -> x.replace(0, 1, 2, 2));
            due.refused(BuilderTest::small, "replace(0, 1, 2, 3), forgotten", MISSING, x -> x.replace(0, 1, 2, 3));
        });
        due.test("Promise 12", "PLACE: as of delete()", () -> {
            due.bounds(BuilderTest::small, "replace(0, from, 3, 0)", 0, 3, 3, 6, PLACE,
                    (x, from) -> x.replace(0, from, 3, 0));
            due.bounds(BuilderTest::small, "replace(0, from, MAX, 0)", 0, 3, 3, 6, PLACE,
                    (x, from) -> x.replace(0, from, MAX, 0));
            due.refused(BuilderTest::small, "replace(0, 4, 4, 0)", PLACE, x -> x.replace(0, 4, 4, 0));
            due.is("replace(0, 2, 2, 0)", small().replace(0, 2, 2, 0), 6);
            due.refused(BuilderTest::small, "replace(0, 2, 1, 0)", PLACE, x -> x.replace(0, 2, 1, 0));
            due.refused(BuilderTest::small, "replace(0, 0, -1, 0)", PLACE, x -> x.replace(0, 0, -1, 0));
            due.refused(BuilderTest::small, "replace(0, 5, 4, 0)", PLACE, x -> x.replace(0, 5, 4, 0));
            due.refused(BuilderTest::small, "replace(0, 4, 4, 1), empty", PLACE, x -> x.replace(0, 4, 4, 1));
        });
        due.test("Promise 12", "FULL", () -> {
            full("replace(0, 0, 0, 0)", 3, x -> x.replace(0, 0, 0, 0));
            full("replace(0, 0, 2, 0)", 1, x -> x.replace(0, 0, 2, 0));
            full("replace(0, 197, 300, 0)", 1, x -> x.replace(0, x.size(0) - 2, 300, 0));
            due.is("replace(0, 1, 4, 0) at 200", holding("x".repeat(200)).replace(0, 1, 4, 0), 200);
        });
    }

    private static void reverse() {
        due.test("Promise 13", "The row is turned round, the last SIGN the first one: how many there are", () -> {
            leaves(holding(""), "reverse(0), empty", x -> x.reverse(0), 0, "");
            leaves(holding("a"), "reverse(0) of one", x -> x.reverse(0), 1, "a");
            leaves(holding("ab"), "reverse(0) of two", x -> x.reverse(0), 2, "ba");
            leaves(holding("abc"), "reverse(0) of three", x -> x.reverse(0), 3, "cba");
            leaves(holding("x".repeat(199) + "y"), "reverse(0) of 200", x -> x.reverse(0), 200,
                    "y" + "x".repeat(199));
        });
        due.test("Promise 13", "UNKNOWN",
                () -> due.builders(BuilderTest::alike, "reverse(b)", 3, (x, b) -> x.reverse(b)));
    }

    private static void put() {
        due.test("Promise 14", "The SIGN at a place becomes another one: what it was", () -> {
            leaves(small(), "put(0, 0, 85)", x -> x.put(0, 0, 'U'), 'a', "Ubc");
            leaves(small(), "put(0, 1, 85)", x -> x.put(0, 1, 'U'), 'b', "aUc");
            leaves(small(), "put(0, 2, 85)", x -> x.put(0, 2, 'U'), 'c', "abU");
            leaves(small(), "put(0, 2, 99), the same", x -> x.put(0, 2, 'c'), 'c', "abc");
            leaves(holding("\u00ff\u0000"), "put(0, 0, 85) of 255", x -> x.put(0, 0, 'U'), 255, "U\u0000");
            leaves(holding("\u00ff\u0000"), "put(0, 1, 85) of 0", x -> x.put(0, 1, 'U'), 0, "\u00ffU");
        });
        due.test("Promise 14", "UNKNOWN",
                () -> due.builders(BuilderTest::alike, "put(b, 0, 97)", 'a', (x, b) -> x.put(b, 0, 97)));
        due.test("Promise 14", "OUTSIDE: no SIGN", () -> {
            due.signs(BuilderTest::small, "put(0, 1, s)", 'b', 'b', (x, s) -> x.put(0, 1, s));
            leaves(small(), "put(0, 1, 0)", x -> x.put(0, 1, 0), 'b', "a\u0000c");
            leaves(small(), "put(0, 1, 255)", x -> x.put(0, 1, 255), 'b', "a\u00ffc");
        });
        due.test("Promise 14", "PLACE: there is none", () -> {
            due.bounds(BuilderTest::small, "put(0, at, 97)", 0, 'a', 2, 'c', PLACE, (x, at) -> x.put(0, at, 97));
            due.refused(BuilderTest::small, "put(1, 0, 97), empty", PLACE, x -> x.put(1, 0, 97));
        });
    }

    private static void length() {
        due.test("Promise 15", "There are n SIGNS then: those beyond are dropped, or SIGNS 0 are appended: "
                + "how many there were", () -> {
            leaves(small(), "length(0, 0)", x -> x.length(0, 0), 3, "");
            leaves(small(), "length(0, 2)", x -> x.length(0, 2), 3, "ab");
            leaves(small(), "length(0, 3)", x -> x.length(0, 3), 3, "abc");
            leaves(small(), "length(0, 4)", x -> x.length(0, 4), 3, "abc\u0000");
            RowsOfSigns x = small();
            x.length(0, 1);
            leaves(x, "length(0, 3) behind length(0, 1)", y -> y.length(0, 3), 1, "a\u0000\u0000");
        });
        due.test("Promise 15", "UNKNOWN",
                () -> due.builders(BuilderTest::alike, "length(b, 4)", 3, (x, b) -> x.length(b, 4)));
        due.test("Promise 15", "COUNT", () -> {
            leaves(small(), "length(0, 0)", x -> x.length(0, 0), 3, "");
            due.refused(BuilderTest::small, "length(0, -1)", COUNT, x -> x.length(0, -1));
            due.refused(BuilderTest::small, "length(0, MIN)", COUNT, x -> x.length(0, MIN));
        });
        due.test("Promise 15", "FULL", () -> {
            leaves(small(), "length(0, 200)", x -> x.length(0, 200), 3, "abc" + "\u0000".repeat(197));
            due.refused(BuilderTest::small, "length(0, 201)", FULL, x -> x.length(0, 201));
            due.refused(BuilderTest::small, "length(0, MAX)", FULL, x -> x.length(0, MAX));
            due.is("length(0, 200) at 200", holding("x".repeat(200)).length(0, 200), 200);
            due.refused(() -> holding("x".repeat(200)), "length(0, 201) at 200", FULL, x -> x.length(0, 201));
        });
    }

    private static void at() {
        due.test("Promise 16", "The SIGN at a place", () -> {
            due.is("at(0, 0)", small().at(0, 0), 'a');
            due.is("at(0, 1)", small().at(0, 1), 'b');
            due.is("at(0, 2)", small().at(0, 2), 'c');
            due.is("at(0, 199) of 200", holding("x".repeat(199) + "\u00ff").at(0, 199), 255);
            due.is("at(0, 0) of SIGN 0", holding("\u0000").at(0, 0), 0);
        });
        due.test("Promise 16", "UNKNOWN",
                () -> due.builders(BuilderTest::alike, "at(b, 1)", 'b', (x, b) -> x.at(b, 1)));
        due.test("Promise 16", "PLACE: there is none", () -> {
            due.bounds(BuilderTest::small, "at(0, at)", 0, 'a', 2, 'c', PLACE, (x, at) -> x.at(0, at));
            due.refused(BuilderTest::small, "at(1, 0), empty", PLACE, x -> x.at(1, 0));
            due.refused(() -> holding("x".repeat(200)), "at(0, 200) of 200", PLACE, x -> x.at(0, 200));
            RowsOfSigns x = small();
            x.length(0, 2);
            due.is("at(0, 2), dropped", x.at(0, 2), PLACE);
        });
    }

    private static void size() {
        due.test("Promise 17", "How many SIGNS there are", () -> {
            due.is("size(0)", small().size(0), 3);
            due.is("size(1), empty", small().size(1), 0);
            due.is("size(0) of 200", holding("x".repeat(200)).size(0), 200);
        });
        due.test("Promise 17", "UNKNOWN", () -> due.builders(BuilderTest::alike, "size(b)", 3, (x, b) -> x.size(b)));
    }

    /** Builder 0 is ababa; text 0 is ab, text 1 is empty, text 2 is longer, text 3 is aba, text 4 is missing. */
    private static RowsOfSigns sought() {
        return Rows.with("ababa", "ab", "", "ababab", "aba");
    }

    private static void first() {
        due.test("Promise 18", "THE FIRST of a TEXT in a BUILDER", () -> {
            due.is("first(0, 0, 0)", sought().first(0, 0, 0), 0);
            due.is("first(0, 0, 1)", sought().first(0, 0, 1), 2);
            due.is("first(0, 0, 2)", sought().first(0, 0, 2), 2);
            due.is("first(0, 3, 1), overlapping", sought().first(0, 3, 1), 2);
            due.is("first(0, 0, -1)", sought().first(0, 0, -1), 0);
            due.is("first(0, 0, MIN)", sought().first(0, 0, MIN), 0);
            due.is("first(0, 1, 5), empty", sought().first(0, 1, 5), 5);
            due.is("first(0, 1, 6), empty", sought().first(0, 1, 6), 5);
            due.is("first(0, 1, MAX), empty", sought().first(0, 1, MAX), 5);
            due.is("first(1, 1, 0), both empty", sought().first(1, 1, 0), 0);
        });
        due.test("Promise 18", "NONE", () -> {
            due.is("first(0, 0, 3)", sought().first(0, 0, 3), NONE);
            due.is("first(0, 0, MAX)", sought().first(0, 0, MAX), NONE);
            due.is("first(0, 2, 0), longer", sought().first(0, 2, 0), NONE);
            due.is("first(1, 0, 0), empty", sought().first(1, 0, 0), NONE);
        });
        due.test("Promise 18", "UNKNOWN", () -> {
            due.builders(BuilderTest::alike, "first(b, 0, 0)", 0, (x, b) -> x.first(b, 0, 0));
            due.texts(BuilderTest::alike, "first(0, t, 0)", 0, (x, t) -> x.first(0, t, 0));
        });
        due.test("Promise 18", "MISSING", () -> {
            due.is("first(0, 1, 3), empty", sought().first(0, 1, 3), 3);
            due.refused(BuilderTest::sought, "first(0, 4, 3)", MISSING, x -> x.first(0, 4, 3));
            due.refused(BuilderTest::small, "first(0, 3, 0), forgotten", MISSING, x -> x.first(0, 3, 0));
        });
    }

    private static void last() {
        due.test("Promise 19", "THE LAST of a TEXT in a BUILDER", () -> {
            due.is("last(0, 0, 5)", sought().last(0, 0, 5), 2);
            due.is("last(0, 0, 2)", sought().last(0, 0, 2), 2);
            due.is("last(0, 0, 1)", sought().last(0, 0, 1), 0);
            due.is("last(0, 0, 0)", sought().last(0, 0, 0), 0);
            due.is("last(0, 3, 9), overlapping", sought().last(0, 3, 9), 2);
            due.is("last(0, 0, MAX)", sought().last(0, 0, MAX), 2);
            due.is("last(0, 1, 5), empty", sought().last(0, 1, 5), 5);
            due.is("last(0, 1, 6), empty", sought().last(0, 1, 6), 5);
            due.is("last(0, 1, 0), empty", sought().last(0, 1, 0), 0);
            due.is("last(1, 1, 0), both empty", sought().last(1, 1, 0), 0);
        });
        due.test("Promise 19", "NONE", () -> {
            due.is("last(0, 0, -1)", sought().last(0, 0, -1), NONE);
            due.is("last(0, 0, MIN)", sought().last(0, 0, MIN), NONE);
            due.is("last(0, 1, -1), empty", sought().last(0, 1, -1), NONE);
            due.is("last(0, 2, 9), longer", sought().last(0, 2, 9), NONE);
            due.is("last(1, 0, 9), empty", sought().last(1, 0, 9), NONE);
        });
        due.test("Promise 19", "UNKNOWN", () -> {
            due.builders(BuilderTest::alike, "last(b, 0, 9)", 0, (x, b) -> x.last(b, 0, 9));
            due.texts(BuilderTest::alike, "last(0, t, 9)", 0, (x, t) -> x.last(0, t, 9));
        });
        due.test("Promise 19", "MISSING", () -> {
            due.is("last(0, 1, 3), empty", sought().last(0, 1, 3), 3);
            due.refused(BuilderTest::sought, "last(0, 4, 3)", MISSING, x -> x.last(0, 4, 3));
            due.refused(BuilderTest::small, "last(0, 3, 0), forgotten", MISSING, x -> x.last(0, 3, 0));
        });
    }

    private static void taken(int from, int to, int t, String row) {
        RowsOfSigns x = small();
        String call = "take(0, " + from + ", " + to + ", " + t + ")";
        due.is(call, x.take(0, from, to, t), row.length());
        due.is(call, Rows.text(x, t), row);
        due.is(call + ", the builder", Rows.builder(x, 0), "abc");
    }

    private static void take() {
        due.test("Promise 20", "A TEXT becomes the SIGNS of a BUILDER FROM one place TO another one: "
                + "how many these are", () -> {
            taken(0, 3, 0, "abc");
            taken(1, 3, 0, "bc");
            taken(0, 2, 1, "ab");
            taken(1, 2, 2, "b");
            taken(1, 1, 2, "");
            RowsOfSigns x = holding("x".repeat(200));
            due.is("take(0, 0, 200, 0)", x.take(0, 0, 200, 0), 200);
            due.is("textSize(0)", x.textSize(0), 200);
            x.put(0, 0, 'y');
            due.is("signAt(0, 0), the builder is another one", x.signAt(0, 0), 'x');
        });
        due.test("Promise 20", "UNKNOWN", () -> {
            due.builders(BuilderTest::alike, "take(b, 0, 2, 5)", 2, (x, b) -> x.take(b, 0, 2, 5));
            due.texts(BuilderTest::alike, "take(0, 0, 2, t)", 2, (x, t) -> x.take(0, 0, 2, t));
        });
        due.test("Promise 20", "PLACE: from below 0", () -> due.bounds(BuilderTest::small, "take(0, from, 3, 0)",
                0, 3, 3, 0, PLACE, (x, from) -> x.take(0, from, 3, 0)));
        due.test("Promise 20", "to above how many SIGNS there are", () -> {
            due.bounds(BuilderTest::small, "take(0, 0, to, 0)", 0, 0, 3, 3, PLACE, (x, to) -> x.take(0, 0, to, 0));
            due.bounds(BuilderTest::small, "take(1, 0, to, 0), empty", 0, 0, 0, 0, PLACE,
                    (x, to) -> x.take(1, 0, to, 0));
            due.refused(BuilderTest::small, "take(0, 4, 4, 0)", PLACE, x -> x.take(0, 4, 4, 0));
        });
        due.test("Promise 20", "from above to", () -> {
            taken(2, 2, 0, "");
            due.refused(BuilderTest::small, "take(0, 2, 1, 0)", PLACE, x -> x.take(0, 2, 1, 0));
            due.refused(BuilderTest::small, "take(0, 2, 1, 2), missing", PLACE, x -> x.take(0, 2, 1, 2));
            due.refused(BuilderTest::small, "take(0, MAX, MIN, 0)", PLACE, x -> x.take(0, MAX, MIN, 0));
        });
    }

    private static void ordered(String one, String other, int want) {
        RowsOfSigns x = holding(one);
        Rows.build(x, 1, other);
        due.is("ahead(0, 1) of " + Rows.shown(one) + " and " + Rows.shown(other), x.ahead(0, 1), want);
        due.is("ahead(1, 0) of " + Rows.shown(one) + " and " + Rows.shown(other), x.ahead(1, 0), -want);
    }

    private static void ahead() {
        due.test("Promise 21", "1, 0, -1: the ORDER of the rows of two BUILDERS is above 0, is 0, is below 0", () -> {
            ordered("", "", 0);
            ordered("abc", "abc", 0);
            ordered("abb", "abc", -1);
            ordered("ab", "abc", -1);
            ordered("", "a", -1);
            ordered("\u0000", "\u00ff", -1);
            ordered("ab", "b", -1);
            ordered("x".repeat(199) + "a", "x".repeat(199) + "z", -1);
            due.is("ahead(0, 0)", small().ahead(0, 0), 0);
        });
        due.test("Promise 21", "UNKNOWN", () -> {
            due.builders(BuilderTest::alike, "ahead(b, 0)", 0, (x, b) -> x.ahead(b, 0));
            due.builders(BuilderTest::alike, "ahead(0, c)", 0, (x, c) -> x.ahead(0, c));
        });
    }
}
