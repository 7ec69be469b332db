/** Promises 37 to 40: the parts into which a text falls; a test of each sentence. */
public final class PartTest {
    private static final Due due = Due.ofPromises(37, 40);
    private static final int MIN = Integer.MIN_VALUE;
    private static final int MAX = Integer.MAX_VALUE;
    private static final int NONE = -1, UNKNOWN = -1001, OUTSIDE = -1002, MISSING = -1003;

    public static void main(String[] args) {
        split();
        parts();
        partTo();
        joined();
        due.end();
    }

    /** Text 0 fell into the parts ab, none, c; text 1 is empty, text 2 is missing, text 3 was forgotten. */
    private static RowsOfSigns fallen() {
        RowsOfSigns x = Rows.with("", "ab,,c", "", null, "gone");
        x.forget(3);
        x.split(0, ',', 0);
        return x;
    }

    private static RowsOfSigns fallenAlike() {
        RowsOfSigns x = Rows.alike("a,b");
        x.split(0, ',', 0);
        return x;
    }

    private static void falls(String text, int limit, String parts) {
        RowsOfSigns x = Rows.with("", text);
        int bars = 0;
        for (int i = 0; i < parts.length(); i++) {
            bars += parts.charAt(i) == '|' ? 1 : 0;
        }
        String call = "split(0, 44, " + limit + ") of " + Rows.shown(text);
        due.is(call, x.split(0, ',', limit), bars - 1);
        due.is(call, Rows.parts(x), parts);
        due.is(call + ", the text stays", Rows.text(x, 0), text);
    }

    private static void split() {
        due.test("Promise 37", "A TEXT falls into PARTS by a separator: how many there are then", () -> {
            falls("a,b,c", 0, "|a|b|c|");
            falls("a,b,c", -1, "|a|b|c|");
            falls("a,b,c", MIN, "|a|b|c|");
            falls("a,b,c", 1, "|a,b,c|");
            falls("a,b,c", 2, "|a|b,c|");
            falls("a,b,c", 3, "|a|b|c|");
            falls("a,b,c", 4, "|a|b|c|");
            falls("a,b,c", MAX, "|a|b|c|");
            falls(",a,,b,,", 0, "||a||b|");
            falls(",a,,b,,", -1, "||a||b|||");
        });
        due.test("Promise 37", "UNKNOWN",
                () -> due.texts(PartTest::fallenAlike, "split(t, 97, -1)", 2, (x, t) -> x.split(t, 'a', -1)));
        due.test("Promise 37", "OUTSIDE: no separator", () -> {
            due.signs(PartTest::fallen, "split(0, s, 0)", 1, 1, (x, s) -> x.split(0, s, 0));
            due.refused(PartTest::fallen, "split(0, 46, 0)", OUTSIDE, x -> x.split(0, '.', 0));
            due.is("split(0, 45, 0)", fallen().split(0, '-', 0), 1);
            due.is("split(0, 47, 0)", fallen().split(0, '/', 0), 1);
        });
        due.test("Promise 37", "MISSING", () -> {
            due.is("split(1, 44, 0), empty", fallen().split(1, ',', 0), 1);
            due.refused(PartTest::fallen, "split(2, 44, 0)", MISSING, x -> x.split(2, ',', 0));
            due.refused(PartTest::fallen, "split(3, 44, 0), forgotten", MISSING, x -> x.split(3, ',', 0));
        });
    }

    private static void parts() {
        due.test("Promise 38", "How many PARTS there are", () -> {
            RowsOfSigns x = Rows.with("", "a,,", ",,", "");
            due.is("parts() at first", x.parts(), 0);
            x.split(0, ',', -1);
            due.is("parts() behind split(0, 44, -1)", x.parts(), 3);
            x.split(0, ',', 0);
            due.is("parts() behind split(0, 44, 0)", x.parts(), 1);
            x.split(1, ',', 0);
            due.is("parts() behind split(1, 44, 0)", x.parts(), 0);
            x.split(2, ',', 0);
            due.is("parts() behind split(2, 44, 0)", x.parts(), 1);
            RowsOfSigns y = Rows.with("", ",".repeat(200));
            y.split(0, ',', -1);
            due.is("parts() of 200 separators", y.parts(), 201);
        });
    }

    /** What the call answers, and the text that it makes. */
    private static void makes(RowsOfSigns x, String call, Due.Call made, int t, String row) {
        due.is(call, made.on(x), row.length());
        due.is(call, Rows.text(x, t), row);
    }

    private static void partTo() {
        due.test("Promise 39", "A TEXT becomes the PART k: how many SIGNS it has", () -> {
            makes(fallen(), "partTo(0, 5)", x -> x.partTo(0, 5), 5, "ab");
            makes(fallen(), "partTo(1, 0)", x -> x.partTo(1, 0), 0, "");
            makes(fallen(), "partTo(2, 0)", x -> x.partTo(2, 0), 0, "c");
            makes(fallen(), "partTo(0, 2), missing", x -> x.partTo(0, 2), 2, "ab");
            RowsOfSigns x = Rows.with("", "x".repeat(200));
            x.split(0, ',', 0);
            makes(x, "partTo(0, 1) of 200", y -> y.partTo(0, 1), 1, "x".repeat(200));
            RowsOfSigns y = Rows.with("", ",".repeat(199) + "z");
            y.split(0, ',', 0);
            makes(y, "partTo(199, 1)", z -> z.partTo(199, 1), 1, "z");
            makes(y, "partTo(198, 1)", z -> z.partTo(198, 1), 1, "");
        });
        due.test("Promise 39", "UNKNOWN",
                () -> due.texts(PartTest::fallenAlike, "partTo(1, t)", 1, (x, t) -> x.partTo(1, t)));
        due.test("Promise 39", "NONE, behind that: there is no such PART (the TEXT stays)", () -> {
            due.bounds(PartTest::fallen, "partTo(k, 0)", 0, 2, 2, 1, NONE, (x, k) -> x.partTo(k, 0));
            due.bounds(PartTest::fallen, "partTo(k, 2), missing", 0, 2, 2, 1, NONE, (x, k) -> x.partTo(k, 2));
            due.refused(() -> Rows.with("", "a"), "partTo(0, 0), no parts", NONE, x -> x.partTo(0, 0));
            RowsOfSigns x = Rows.with("", ",", "");
            x.split(0, ',', 0);
            due.is("partTo(0, 0), all were dropped", x.partTo(0, 0), NONE);
            due.is("partTo(3, 8)", fallen().partTo(3, 8), UNKNOWN);
            due.is("partTo(-1, -1)", fallen().partTo(-1, -1), UNKNOWN);
            RowsOfSigns y = Rows.with("", ",".repeat(200));
            y.split(0, ',', -1);
            due.is("partTo(200, 0)", y.partTo(200, 0), 0);
            due.is("partTo(201, 0)", y.partTo(201, 0), NONE);
        });
    }

    private static RowsOfSigns parted(String text, int limit) {
        RowsOfSigns x = Rows.with("", text);
        x.split(0, ',', limit);
        return x;
    }

    private static void joined() {
        due.test("Promise 40", "A TEXT becomes all PARTS, one behind the other, with a SIGN between each two", () -> {
            makes(fallen(), "joined(59, 0)", x -> x.joined(';', 0), 0, "ab;;c");
            makes(fallen(), "joined(59, 2), missing", x -> x.joined(';', 2), 2, "ab;;c");
            makes(fallen(), "joined(46, 5)", x -> x.joined('.', 5), 5, "ab..c");
            makes(parted("a", 0), "joined(59, 0), one part", x -> x.joined(';', 0), 0, "a");
            makes(parted("", 0), "joined(59, 0), one empty part", x -> x.joined(';', 0), 0, "");
            makes(parted(",", -1), "joined(59, 0), two empty parts", x -> x.joined(';', 0), 0, ";");
            makes(parted(",".repeat(200), -1), "joined(59, 0), 201 parts", x -> x.joined(';', 0), 0, ";".repeat(200));
            makes(parted("x".repeat(200), -1), "joined(59, 0), 200 signs", x -> x.joined(';', 0), 0, "x".repeat(200));
            RowsOfSigns x = fallen();
            x.joined(';', 0);
            due.is("joined(59, 0), the parts stay", Rows.parts(x), "|ab||c|");
        });
        due.test("Promise 40", "(without PARTS it is empty): how many SIGNS it has", () -> {
            makes(Rows.with("", "old"), "joined(59, 0) at first", x -> x.joined(';', 0), 0, "");
            makes(Rows.with("", "old"), "joined(59, 1) at first, missing", x -> x.joined(';', 1), 1, "");
            makes(parted(",,", 0), "joined(59, 0), all were dropped", x -> x.joined(';', 0), 0, "");
        });
        due.test("Promise 40", "UNKNOWN",
                () -> due.texts(PartTest::fallenAlike, "joined(59, t)", 3, (x, t) -> x.joined(';', t)));
        due.test("Promise 40", "OUTSIDE: no SIGN", () -> {
            due.signs(PartTest::fallen, "joined(s, 0)", 5, 5, (x, s) -> x.joined(s, 0));
            makes(fallen(), "joined(0, 0)", x -> x.joined(0, 0), 0, "ab\u0000\u0000c");
            makes(fallen(), "joined(255, 0)", x -> x.joined(255, 0), 0, "ab\u00ff\u00ffc");
            due.refused(() -> Rows.with("", "old"), "joined(256, 0) at first", OUTSIDE, x -> x.joined(256, 0));
        });
    }
}
