/** Promises 41 to 46: cutters, and the digest of all. */
public final class CutterTest {
    private static final Due due = new Due();
    private static final int UNKNOWN = -1001, MISSING = -1003, ENDED = -1006;

    public static void main(String[] args) {
        cutter();
        cutterKeepsItsRows();
        cutterRefused();
        more();
        left();
        next();
        nextEnds();
        nextBy();
        nextByRefused();
        digestOfNew();
        digestOfAll();
        due.end();
    }

    /** Text 0 is cut by the signs of text 1. */
    private static RowsOfSigns with(String text, String separators) {
        RowsOfSigns x = new RowsOfSigns();
        Due.write(x, 0, text);
        Due.write(x, 1, separators);
        return x;
    }

    private static void tokens(String text, String separators, boolean gives, String... want) {
        RowsOfSigns x = with(text, separators);
        String call = "41 cutter of " + text + " by " + separators + (gives ? ", given" : "");
        due.is(call, x.cutter(0, 0, 1, gives), want.length);
        for (int i = 0; i < want.length; i++) {
            due.is(call + ", left", x.left(0), want.length - i);
            due.is(call + ", more", x.more(0), 1);
            due.is(call + ", next", x.next(0, 7), want[i].length());
            due.is(call + ", token", Due.text(x, 7), want[i]);
        }
        due.is(call + ", left at the end", x.left(0), 0);
        due.is(call + ", more at the end", x.more(0), 0);
        due.is(call + ", next at the end", x.next(0, 7), ENDED);
        due.is(call + ", missing", x.left(0), MISSING);
    }

    private static void cutter() {
        tokens("a,b;c", ",;", false, "a", "b", "c");
        tokens(",,ab,;cd;", ",;", false, "ab", "cd");
        tokens("a,b;c", ",;", true, "a", ",", "b", ";", "c");
        tokens(",,ab;", ";,;", true, ",", ",", "ab", ";");
        tokens("abc", "", false, "abc");
        tokens("abc", "", true, "abc");
        tokens("", ",", false);
        tokens("", ",", true);
        tokens("", "", false);
        tokens(",,,", ",", false);
        tokens(",,,", ",", true, ",", ",", ",");
        tokens("a\u00ffb\u0000c", "\u00ff\u0000", false, "a", "b", "c");
        RowsOfSigns x = with("x".repeat(200), "x");
        due.is("41 200 separators given", x.cutter(1, 0, 1, true), 200);
        due.is("41 200 separators", x.cutter(1, 0, 1, false), 0);
    }

    private static void cutterKeepsItsRows() {
        RowsOfSigns x = with("a,b;c", ",");
        x.cutter(0, 0, 1, false);
        x.forget(0);
        Due.write(x, 1, "b");
        due.is("41 left of the text as it was", x.left(0), 2);
        x.next(0, 2);
        due.is("41 next of the text as it was", x.next(0, 2), 3);
        due.is("41 its token", Due.text(x, 2), "b;c");
        due.is("41 cutter of itself", x.cutter(0, 2, 2, false), 0);
        due.is("41 cutter of itself, given", x.cutter(0, 2, 2, true), 3);
        x.next(0, 2);
        Due.write(x, 3, "d");
        due.is("41 cutter made anew", x.cutter(0, 3, 2, false), 1);
        due.is("41 the place is 0 again", x.next(0, 4), 1);
    }

    private static void cutterRefused() {
        RowsOfSigns x = with("a,b", ",");
        x.cutter(0, 0, 1, false);
        due.refused(x, "41 cutter(0, 2, 1)", MISSING, () -> x.cutter(0, 2, 1, true));
        due.refused(x, "41 cutter(0, 0, 2)", MISSING, () -> x.cutter(0, 0, 2, true));
        due.refused(x, "41 cutter(2, 0, 2)", UNKNOWN, () -> x.cutter(2, 0, 2, true));
        due.refused(x, "41 cutter(-1, 0, 1)", UNKNOWN, () -> x.cutter(-1, 0, 1, true));
        due.refused(x, "41 cutter(0, 8, 2)", UNKNOWN, () -> x.cutter(0, 8, 2, true));
        due.refused(x, "41 cutter(0, 2, -1)", UNKNOWN, () -> x.cutter(0, 2, -1, true));
        due.is("41 the cutter of before", x.next(0, 3), 1);
        due.is("41 the cutter of before, again", x.next(0, 3), 1);
        due.is("41 the cutter of before, its token", Due.text(x, 3), "b");
    }

    private static void more() {
        RowsOfSigns x = with("a,,", ",");
        due.refused(x, "42 more(0), missing", MISSING, () -> x.more(0));
        x.cutter(0, 0, 1, false);
        due.is("42 more(0)", x.more(0), 1);
        due.is("42 more(0) again", x.more(0), 1);
        x.next(0, 2);
        due.is("42 more(0) of separators", x.more(0), 0);
        due.is("42 more(0) of separators again", x.more(0), 0);
        x.cutter(1, 0, 1, true);
        x.next(1, 2);
        due.is("42 more(1) of given separators", x.more(1), 1);
        due.refused(x, "42 more(2)", UNKNOWN, () -> x.more(2));
        due.refused(x, "42 more(-1)", UNKNOWN, () -> x.more(-1));
    }

    private static void left() {
        RowsOfSigns x = with("a,b;c", ",");
        due.refused(x, "43 left(1), missing", MISSING, () -> x.left(1));
        x.cutter(1, 0, 1, false);
        due.is("43 left(1)", x.left(1), 2);
        due.is("43 left(1) again", x.left(1), 2);
        Due.write(x, 2, ";");
        x.nextBy(1, 2, 3);
        due.is("43 the token", Due.text(x, 3), "a,b");
        due.is("43 left(1) by other separators", x.left(1), 1);
        x.next(1, 3);
        due.is("43 left(1) at the end", x.left(1), 0);
        due.refused(x, "43 left(2)", UNKNOWN, () -> x.left(2));
        due.refused(x, "43 left(-1)", UNKNOWN, () -> x.left(-1));
    }

    private static void next() {
        RowsOfSigns x = with(",ab,c", ",");
        x.cutter(0, 0, 1, false);
        x.cutter(1, 0, 1, true);
        due.is("44 next(0, 0)", x.next(0, 0), 2);
        due.is("44 token in the place of the text", Due.text(x, 0), "ab");
        due.is("44 next(0, 0) again", x.next(0, 0), 1);
        due.is("44 token c", Due.text(x, 0), "c");
        due.is("44 the other cutter", x.left(1), 4);
        due.is("44 next(1, 1)", x.next(1, 1), 1);
        due.is("44 next(1, 1) again", x.next(1, 1), 2);
        due.is("44 token ab", Due.text(x, 1), "ab");
    }

    private static void nextEnds() {
        RowsOfSigns x = with("a", ",");
        due.refused(x, "44 next(0, 0), missing", MISSING, () -> x.next(0, 0));
        x.cutter(0, 0, 1, false);
        x.next(0, 2);
        due.refused(x, "44 next(0, 8) at the end", UNKNOWN, () -> x.next(0, 8));
        due.refused(x, "44 next(2, 0)", UNKNOWN, () -> x.next(2, 0));
        due.refused(x, "44 next(-1, -1)", UNKNOWN, () -> x.next(-1, -1));
        due.is("44 not missing by these", x.left(0), 0);
        due.is("44 next(0, 2) at the end", x.next(0, 2), ENDED);
        due.is("44 the text stays", Due.text(x, 2), "a");
        due.is("44 the cutter is missing", x.more(0), MISSING);
        due.is("44 next(0, 2), missing", x.next(0, 2), MISSING);
        due.is("44 next(0, 8), missing", x.next(0, 8), UNKNOWN);
        due.is("44 a new cutter", x.cutter(0, 0, 1, false), 1);
    }

    private static void nextBy() {
        RowsOfSigns x = with("a,b;c,d", ",");
        Due.write(x, 2, ";");
        x.cutter(0, 0, 1, false);
        x.next(0, 3);
        due.is("45 more ahead of nextBy", x.more(0), 1);
        due.is("45 nextBy(0, 2, 3)", x.nextBy(0, 2, 3), 2);
        due.is("45 its separators are not passed by any more", Due.text(x, 3), ",b");
        due.is("45 left by the new separators", x.left(0), 1);
        due.is("45 next by the new separators", x.next(0, 3), 3);
        due.is("45 its token", Due.text(x, 3), "c,d");
        x.cutter(1, 0, 1, true);
        due.is("45 nextBy(1, 2, 2), given", x.nextBy(1, 2, 2), 3);
        due.is("45 token in the place of the separators", Due.text(x, 2), "a,b");
        due.is("45 next given", x.next(1, 2), 1);
        due.is("45 the given separator", Due.text(x, 2), ";");
        Due.write(x, 4, "");
        due.is("45 nextBy(1, 4, 2), no separators", x.nextBy(1, 4, 2), 3);
        due.is("45 all that is left", Due.text(x, 2), "c,d");
        RowsOfSigns y = with("a\u0000b\u00ffc,d", "\u0000\u00ff");
        Due.write(y, 2, ",");
        y.cutter(0, 0, 1, false);
        due.is("45 nextBy without the signs 0 and 255", y.nextBy(0, 2, 3), 5);
    }

    private static void nextByRefused() {
        RowsOfSigns x = with("a,b", ",");
        due.refused(x, "45 nextBy(0, 1, 2), missing cutter", MISSING, () -> x.nextBy(0, 1, 2));
        x.cutter(0, 0, 1, false);
        due.refused(x, "45 nextBy(0, 5, 2), missing text", MISSING, () -> x.nextBy(0, 5, 2));
        due.refused(x, "45 nextBy(0, 5, 8)", UNKNOWN, () -> x.nextBy(0, 5, 8));
        due.refused(x, "45 nextBy(0, 8, 2)", UNKNOWN, () -> x.nextBy(0, 8, 2));
        due.refused(x, "45 nextBy(2, 5, 2)", UNKNOWN, () -> x.nextBy(2, 5, 2));
        Due.write(x, 4, "b");
        due.refused(x, "45 nextBy(0, 4, -1)", UNKNOWN, () -> x.nextBy(0, 4, -1));
        due.is("45 nextBy(0, 4, 2)", x.nextBy(0, 4, 2), 2);
        due.is("45 nextBy(0, 5, 2) at the end", x.nextBy(0, 5, 2), MISSING);
        due.is("45 nextBy(0, 4, 2) at the end", x.nextBy(0, 4, 2), ENDED);
        due.is("45 the text stays", Due.text(x, 2), "a,");
        due.is("45 the cutter is missing", x.nextBy(0, 1, 2), MISSING);
    }

    private static void digestOfNew() {
        long h = 17;
        for (int v : new int[] {0, 0, 0, 0, -1, -1, -1, -1, -1, -1, -1, -1, 0, -1, -1}) {
            h = 31 * h + v;
        }
        due.is("46 digest() of a new object", new RowsOfSigns().digest(), h);
    }

    private static void digestOfAll() {
        RowsOfSigns x = with("a,b", ",");
        Due.write(x, 7, "");
        Due.build(x, 1, "xy");
        Due.build(x, 3, "\u00ff");
        x.split(0, ',', 0);
        x.cutter(1, 0, 1, true);
        x.next(1, 2);
        long h = 17;
        int[] all = {
            0, 2, 'x', 'y', 0, 1, 255,
            3, 'a', ',', 'b', 1, ',', 1, 'a', -1, -1, -1, -1, 0,
            2, 1, 'a', 1, 'b',
            -1, 2};
        for (int v : all) {
            h = 31 * h + v;
        }
        due.is("46 digest()", x.digest(), h);
        due.is("46 digest() again", x.digest(), h);
    }
}
