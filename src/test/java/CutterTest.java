import java.math.BigInteger;

/** Promises 41 to 46: cutters, and the digest of all; a test of each sentence. */
public final class CutterTest {
    private static final Due due = Due.ofPromises(41, 46);
    private static final int UNKNOWN = -1001, MISSING = -1003, ENDED = -1006;

    public static void main(String[] args) {
        cutter();
        more();
        left();
        next();
        nextBy();
        digest();
        due.end();
    }

    /** Text 0 is a,b;c and text 1 the comma; text 2 is empty, text 3 missing, text 4 was forgotten, text 5 is ;. */
    private static RowsOfSigns small() {
        RowsOfSigns x = Rows.with("", "a,b;c", ",", "", null, "gone", ";");
        x.forget(4);
        return x;
    }

    /** Cutter 0 is made of text 0, its separators are those of text 1, and cutter 1 is missing. */
    private static RowsOfSigns cutting() {
        RowsOfSigns x = small();
        x.cutter(0, 0, 1, false);
        return x;
    }

    private static RowsOfSigns atEnd() {
        RowsOfSigns x = cutting();
        x.next(0, 6);
        x.next(0, 6);
        return x;
    }

    private static RowsOfSigns ended() {
        RowsOfSigns x = atEnd();
        x.next(0, 6);
        return x;
    }

    /** Both cutters have the tokens a and b, and all texts are a,b. */
    private static RowsOfSigns alike() {
        return Rows.alike("a,b");
    }

    private static RowsOfSigns of(String text, String separators, boolean gives) {
        RowsOfSigns x = Rows.with("", text, separators);
        x.cutter(0, 0, 1, gives);
        return x;
    }

    private static void cuts(String text, String separators, boolean gives, String tokens) {
        RowsOfSigns x = Rows.with("", text, separators);
        int bars = 0;
        for (int i = 0; i < tokens.length(); i++) {
            bars += tokens.charAt(i) == '|' ? 1 : 0;
        }
        String call = "cutter(0, 0, 1, " + gives + ") of " + Rows.shown(text) + " by " + Rows.shown(separators);
        due.is(call, x.cutter(0, 0, 1, gives), bars - 1);
        due.is(call, Rows.tokens(x, 0), tokens);
    }

    private static void cutter() {
        due.test("Promise 41", "A CUTTER is made of a TEXT, its separators being the SIGNS of the TEXT u: "
                + "how many tokens there are", () -> {
            cuts("a,b;c", ",;", false, "|a|b|c|");
            cuts("a,b;c", ",;", true, "|a|,|b|;|c|");
            cuts(",,ab,;cd;", ",;", false, "|ab|cd|");
            cuts(",,ab;", ";,;", true, "|,|,|ab|;|");
            cuts("abc", "", false, "|abc|");
            cuts("abc", "", true, "|abc|");
            cuts("", ",", false, "|");
            cuts("", ",", true, "|");
            cuts("", "", false, "|");
            cuts(",,,", ",", false, "|");
            cuts(",,,", ",", true, "|,|,|,|");
            cuts("a\u00ffb\u0000c", "\u00ff\u0000", false, "|a|b|c|");
            due.is("of 200 separators", Rows.with("", "x".repeat(200), "x").cutter(0, 0, 1, false), 0);
            due.is("of 200 given separators", Rows.with("", "x".repeat(200), "x").cutter(0, 0, 1, true), 200);
            RowsOfSigns x = cutting();
            x.next(0, 6);
            due.is("cutter(0, 5, 1, false), made anew", x.cutter(0, 5, 1, false), 1);
            due.is("the token of the new one", Rows.tokens(x, 0), "|;|");
        });
        due.test("Promise 41", "UNKNOWN", () -> {
            due.cutters(CutterTest::alike, "cutter(c, 0, 0, true)", 3, (x, c) -> x.cutter(c, 0, 0, true));
            due.texts(CutterTest::alike, "cutter(0, t, 0, true)", 3, (x, t) -> x.cutter(0, t, 0, true));
            due.texts(CutterTest::alike, "cutter(0, 0, u, true)", 3, (x, u) -> x.cutter(0, 0, u, true));
        });
        due.test("Promise 41", "MISSING: either TEXT", () -> {
            due.is("cutter(0, 2, 1, true), empty", cutting().cutter(0, 2, 1, true), 0);
            due.refused(CutterTest::cutting, "cutter(0, 3, 1, true)", MISSING, x -> x.cutter(0, 3, 1, true));
            due.refused(CutterTest::cutting, "cutter(0, 4, 1, true)", MISSING, x -> x.cutter(0, 4, 1, true));
            due.is("cutter(0, 0, 2, true), empty", cutting().cutter(0, 0, 2, true), 1);
            due.refused(CutterTest::cutting, "cutter(0, 0, 3, true)", MISSING, x -> x.cutter(0, 0, 3, true));
            due.refused(CutterTest::cutting, "cutter(0, 0, 4, true)", MISSING, x -> x.cutter(0, 0, 4, true));
            due.refused(CutterTest::cutting, "cutter(1, 0, 3, true)", MISSING, x -> x.cutter(1, 0, 3, true));
        });
    }

    private static void more() {
        due.test("Promise 42", "1: there is a next token; 0: there is none", () -> {
            RowsOfSigns x = cutting();
            due.is("more(0)", x.more(0), 1);
            due.is("more(0) again", x.more(0), 1);
            due.is("next(0, 6)", x.next(0, 6), 1);
            due.is("more(0), the last token is left", x.more(0), 1);
            due.is("next(0, 6)", x.next(0, 6), 3);
            due.is("more(0), none is left", x.more(0), 0);
            due.is("more(0), none is left, again", x.more(0), 0);
            due.is("more(0) of separators", of(",,", ",", false).more(0), 0);
            due.is("more(0) of given separators", of(",,", ",", true).more(0), 1);
            due.is("more(0) of separators and one sign", of(",,a", ",", false).more(0), 1);
            due.is("more(0) of an empty text", of("", ",", true).more(0), 0);
        });
        due.test("Promise 42", "UNKNOWN", () -> due.cutters(CutterTest::alike, "more(c)", 1, (x, c) -> x.more(c)));
        due.test("Promise 42", "MISSING", () -> {
            due.is("more(0) at the end", atEnd().more(0), 0);
            due.refused(CutterTest::ended, "more(0), none was left when one was wanted", MISSING, x -> x.more(0));
            due.refused(CutterTest::cutting, "more(1), never made", MISSING, x -> x.more(1));
        });
    }

    private static void left() {
        due.test("Promise 43", "How many tokens there are from where the CUTTER is, by its separators as they are",
                () -> {
            RowsOfSigns x = cutting();
            due.is("left(0)", x.left(0), 2);
            due.is("left(0) again", x.left(0), 2);
            x.next(0, 6);
            due.is("left(0), the last token is left", x.left(0), 1);
            x.next(0, 6);
            due.is("left(0), none is left", x.left(0), 0);
            RowsOfSigns y = of("a;b,c;d", ",", false);
            Rows.write(y, 2, ";");
            due.is("left(0) by commas", y.left(0), 2);
            y.nextBy(0, 2, 3);
            due.is("left(0) by ;", y.left(0), 2);
            due.is("left(0) of 200 given separators", of(",".repeat(200), ",", true).left(0), 200);
            due.is("left(0) of 100 tokens", of("a,".repeat(100), ",", false).left(0), 100);
            due.is("left(0) of an empty text", of("", "", false).left(0), 0);
        });
        due.test("Promise 43", "UNKNOWN", () -> due.cutters(CutterTest::alike, "left(c)", 2, (x, c) -> x.left(c)));
        due.test("Promise 43", "MISSING", () -> {
            due.is("left(0) at the end", atEnd().left(0), 0);
            due.refused(CutterTest::ended, "left(0), none was left when one was wanted", MISSING, x -> x.left(0));
            due.refused(CutterTest::cutting, "left(1), never made", MISSING, x -> x.left(1));
        });
    }

    private static void next() {
        due.test("Promise 44", "A TEXT becomes the next token, which is taken: how many SIGNS it has", () -> {
            RowsOfSigns x = of(",ab,c,", ",", false);
            due.is("next(0, 0), the text of the cutter", x.next(0, 0), 2);
            due.is("its token", Rows.text(x, 0), "ab");
            due.is("next(0, 7), missing", x.next(0, 7), 1);
            due.is("its token", Rows.text(x, 7), "c");
            RowsOfSigns y = of(",ab", ",", true);
            due.is("next(0, 1), the text of the separators", y.next(0, 1), 1);
            due.is("its token", Rows.text(y, 1), ",");
            due.is("next(0, 1) again", y.next(0, 1), 2);
            due.is("its token", Rows.text(y, 1), "ab");
            RowsOfSigns z = of("x".repeat(200), ",", false);
            due.is("next(0, 1) of 200", z.next(0, 1), 200);
            due.is("its token", Rows.text(z, 1), "x".repeat(200));
        });
        due.test("Promise 44", "UNKNOWN", () -> {
            due.cutters(CutterTest::alike, "next(c, 0)", 1, (x, c) -> x.next(c, 0));
            due.texts(CutterTest::alike, "next(0, t)", 1, (x, t) -> x.next(0, t));
            due.refused(CutterTest::atEnd, "next(0, 8) at the end", UNKNOWN, x -> x.next(0, 8));
            due.refused(CutterTest::atEnd, "next(0, -1) at the end", UNKNOWN, x -> x.next(0, -1));
        });
        due.test("Promise 44", "MISSING: the CUTTER", () -> {
            due.is("next(0, 3) of a text that is missing", cutting().next(0, 3), 1);
            due.is("next(0, 6) at the end", atEnd().next(0, 6), ENDED);
            due.refused(CutterTest::ended, "next(0, 6), one was wanted", MISSING, x -> x.next(0, 6));
            due.refused(CutterTest::cutting, "next(1, 6), never made", MISSING, x -> x.next(1, 6));
        });
        due.test("Promise 44", "ENDED (the CUTTER is MISSING then; the TEXT stays)", () -> {
            RowsOfSigns x = cutting();
            x.next(0, 6);
            due.is("next(0, 6), the last token", x.next(0, 6), 3);
            due.is("left(0)", x.left(0), 0);
            due.is("next(0, 6), none is left", x.next(0, 6), ENDED);
            due.is("the text", Rows.text(x, 6), "b;c");
            due.is("left(0)", x.left(0), MISSING);
            RowsOfSigns y = atEnd();
            due.is("next(0, 7), none is left", y.next(0, 7), ENDED);
            due.is("the text, missing", Rows.text(y, 7), "(missing)");
            due.is("next(0, 1) of separators alone", of(",,", ",", false).next(0, 1), ENDED);
            due.is("next(0, 1) of an empty text", of("", "", true).next(0, 1), ENDED);
            due.is("cutter(0, 0, 1, false), made anew", y.cutter(0, 0, 1, false), 2);
            onlyTheCutterWentMissing(y);
        });
    }

    private static void onlyTheCutterWentMissing(RowsOfSigns x) {
        x.cutter(1, 0, 1, false);
        x.cutter(0, 2, 1, false);
        x.next(0, 6);
        due.is("left(1), the other cutter ended", x.left(1), 2);
        due.is("left(0), it ended", x.left(0), MISSING);
    }

    private static void nextBy() {
        due.test("Promise 45", "The separators of a CUTTER become the SIGNS of the TEXT u, from now on; "
                + "then as next()", () -> {
            RowsOfSigns x = of("a,b;c,d;e", ",", false);
            Rows.write(x, 2, ";");
            due.is("next(0, 3)", x.next(0, 3), 1);
            due.is("nextBy(0, 2, 3)", x.nextBy(0, 2, 3), 2);
            due.is("its token", Rows.text(x, 3), ",b");
            due.is("next(0, 3), from now on", x.next(0, 3), 3);
            due.is("its token", Rows.text(x, 3), "c,d");
            due.is("nextBy(0, 2, 2), u itself", x.nextBy(0, 2, 2), 1);
            due.is("its token", Rows.text(x, 2), "e");
            RowsOfSigns y = of("a,b;c", ",", true);
            Rows.write(y, 2, ";");
            due.is("nextBy(0, 2, 3), given", y.nextBy(0, 2, 3), 3);
            due.is("its token", Rows.text(y, 3), "a,b");
            due.is("next(0, 3), given", y.next(0, 3), 1);
            due.is("its token", Rows.text(y, 3), ";");
            RowsOfSigns z = of("a\u0000b\u00ffc,d", "\u0000\u00ff", false);
            Rows.write(z, 2, "");
            due.is("nextBy(0, 2, 3), no separators", z.nextBy(0, 2, 3), 7);
        });
        due.test("Promise 45", "UNKNOWN", () -> {
            due.cutters(CutterTest::withSemicolon, "nextBy(c, 7, 0)", 3, (x, c) -> x.nextBy(c, 7, 0));
            due.texts(CutterTest::givenAlike, "nextBy(0, u, 0)", 1, (x, u) -> x.nextBy(0, u, 0));
            due.texts(CutterTest::givenAlike, "nextBy(0, 0, t)", 1, (x, t) -> x.nextBy(0, 0, t));
            due.refused(CutterTest::atEnd, "nextBy(0, 1, 8) at the end", UNKNOWN, x -> x.nextBy(0, 1, 8));
            due.refused(CutterTest::cutting, "nextBy(0, 5, 8), the separators stay", UNKNOWN, x -> x.nextBy(0, 5, 8));
        });
        due.test("Promise 45", "MISSING: the CUTTER, u", () -> {
            due.is("nextBy(0, 1, 6) at the end", atEnd().nextBy(0, 1, 6), ENDED);
            due.refused(CutterTest::ended, "nextBy(0, 1, 6), one was wanted", MISSING, x -> x.nextBy(0, 1, 6));
            due.refused(CutterTest::cutting, "nextBy(1, 1, 6), never made", MISSING, x -> x.nextBy(1, 1, 6));
            due.is("nextBy(0, 2, 6), u is empty", cutting().nextBy(0, 2, 6), 5);
            due.refused(CutterTest::cutting, "nextBy(0, 3, 6)", MISSING, x -> x.nextBy(0, 3, 6));
            due.refused(CutterTest::cutting, "nextBy(0, 4, 6), forgotten", MISSING, x -> x.nextBy(0, 4, 6));
            due.refused(CutterTest::atEnd, "nextBy(0, 3, 6) at the end", MISSING, x -> x.nextBy(0, 3, 6));
            due.is("nextBy(0, 1, 3), t is missing", cutting().nextBy(0, 1, 3), 1);
        });
        due.test("Promise 45", "ENDED (as of next())", () -> {
            RowsOfSigns x = of("a,,", ",", false);
            Rows.write(x, 2, ",a");
            Rows.write(x, 3, "old");
            due.is("more(0) by commas", x.more(0), 1);
            due.is("nextBy(0, 2, 3), no token by commas and a", x.nextBy(0, 2, 3), ENDED);
            due.is("the text", Rows.text(x, 3), "old");
            due.is("left(0)", x.left(0), MISSING);
            RowsOfSigns y = of("a,,", ",", false);
            Rows.write(y, 2, "a");
            y.next(0, 3);
            due.is("more(0), separators alone", y.more(0), 0);
            due.is("nextBy(0, 2, 3), they are none any more", y.nextBy(0, 2, 3), 2);
            due.is("nextBy(0, 2, 3), at the end", y.nextBy(0, 2, 3), ENDED);
            due.is("the text", Rows.text(y, 3), ",,");
            due.is("more(0)", y.more(0), MISSING);
        });
    }

    private static RowsOfSigns withSemicolon() {
        RowsOfSigns x = alike();
        Rows.write(x, 7, ";");
        return x;
    }

    private static RowsOfSigns givenAlike() {
        RowsOfSigns x = alike();
        x.cutter(0, 0, 0, true);
        x.cutter(1, 0, 0, true);
        return x;
    }

    /** The numbers one behind the other, as the document tells, without any bound. */
    private static BigInteger unbounded(int... numbers) {
        BigInteger h = BigInteger.valueOf(17);
        for (int v : numbers) {
            h = h.multiply(BigInteger.valueOf(31)).add(BigInteger.valueOf(v));
        }
        return h;
    }

    private static void digest() {
        int[] first = {0, 0, 0, 0, -1, -1, -1, -1, -1, -1, -1, -1, 0, -1, -1};
        due.test("Promise 46", "h = 17; then h = 31 h + v (a long that wraps) for each v", () -> {
            due.is("digest() of a new object", new RowsOfSigns().digest(), unbounded(first).longValue());
            due.is("more than a long holds", unbounded(first).bitLength() > 63 ? 1 : 0, 1);
            RowsOfSigns x = new RowsOfSigns();
            int above = 0;
            int below = 0;
            for (int n = 1; n <= 100; n++) {
                x.sign(0, n);
                above += x.digest() > 0 ? 1 : 0;
                below += x.digest() < 0 ? 1 : 0;
            }
            due.is("digest() is above 0, and below", above > 0 && below > 0 ? 1 : 0, 1);
        });
        due.test("Promise 46", "of each BUILDER how many SIGNS it has, then these", () -> {
            RowsOfSigns x = new RowsOfSigns();
            Rows.build(x, 0, "ab");
            Rows.build(x, 2, "\u0000");
            Rows.build(x, 3, "\u00ff");
            due.is("digest()", x.digest(), unbounded(
                    2, 'a', 'b', 0, 1, 0, 1, 255, -1, -1, -1, -1, -1, -1, -1, -1, 0, -1, -1).longValue());
            due.is("digest() again", x.digest(), unbounded(
                    2, 'a', 'b', 0, 1, 0, 1, 255, -1, -1, -1, -1, -1, -1, -1, -1, 0, -1, -1).longValue());
        });
        due.test("Promise 46", "of each TEXT likewise (NONE alone, if it is MISSING)", () -> {
            RowsOfSigns x = Rows.with("", "ab", "", null, "gone");
            x.forget(3);
            Rows.write(x, 7, "z");
            due.is("digest()", x.digest(), unbounded(
                    0, 0, 0, 0, 2, 'a', 'b', 0, -1, -1, -1, -1, -1, 1, 'z', 0, -1, -1).longValue());
        });
        due.test("Promise 46", "how many PARTS there are, then of each how many SIGNS it has, then these", () -> {
            RowsOfSigns x = Rows.with("", "ab,,c");
            x.split(0, ',', 0);
            x.forget(0);
            due.is("digest()", x.digest(), unbounded(
                    0, 0, 0, 0, -1, -1, -1, -1, -1, -1, -1, -1, 3, 2, 'a', 'b', 0, 1, 'c', -1, -1).longValue());
            RowsOfSigns y = Rows.with("", ",");
            y.split(0, ',', 0);
            y.forget(0);
            due.is("digest() without parts", y.digest(), unbounded(first).longValue());
        });
        due.test("Promise 46", "of each CUTTER its left(), NONE if it is MISSING", () -> {
            RowsOfSigns x = Rows.with("", "a,b", ",");
            x.cutter(1, 0, 1, true);
            x.cutter(0, 0, 1, false);
            x.forget(0);
            x.forget(1);
            int[] numbers = {0, 0, 0, 0, -1, -1, -1, -1, -1, -1, -1, -1, 0, 2, 3};
            due.is("digest()", x.digest(), unbounded(numbers).longValue());
            x.next(0, 0);
            x.next(0, 0);
            x.forget(0);
            numbers[13] = 0;
            due.is("digest() at the end", x.digest(), unbounded(numbers).longValue());
            x.next(0, 0);
            numbers[13] = -1;
            due.is("digest() when it ended", x.digest(), unbounded(numbers).longValue());
        });
    }
}
