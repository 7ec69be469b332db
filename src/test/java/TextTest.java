/** Promises 22 to 36: texts. */
public final class TextTest {
    private static final Due due = new Due();
    private static final int MIN = Integer.MIN_VALUE;
    private static final int MAX = Integer.MAX_VALUE;
    private static final int UNKNOWN = -1001, OUTSIDE = -1002, MISSING = -1003, COUNT = -1004, PLACE = -1005, FULL = -1007;

    public static void main(String[] args) {
        forget();
        textSize();
        signAt();
        firstSign();
        lastSign();
        firstText();
        lastText();
        region();
        order();
        begins();
        swap();
        sub();
        trim();
        repeat();
        join();
        due.end();
    }

    /** The texts from 0 on; those behind them are missing. */
    private static RowsOfSigns with(String... rows) {
        RowsOfSigns x = new RowsOfSigns();
        for (int t = 0; t < rows.length; t++) {
            Due.write(x, t, rows[t]);
        }
        return x;
    }

    private static void forget() {
        RowsOfSigns x = with("a", "");
        due.is("22 forget(0)", x.forget(0), 1);
        due.is("22 forget(0) again", x.forget(0), 0);
        due.is("22 forget(1), empty", x.forget(1), 1);
        due.is("22 forget(7), never made", x.forget(7), 0);
        due.is("22 forgotten", x.textSize(0), -1);
        due.is("22 forgotten, empty", x.textSize(1), -1);
        due.is("22 forgotten as the four", x.text(0, 0), 4);
        due.refused(x, "22 forget(8)", UNKNOWN, () -> x.forget(8));
        due.refused(x, "22 forget(-1)", UNKNOWN, () -> x.forget(-1));
    }

    private static void textSize() {
        RowsOfSigns x = with("abc", "", "x".repeat(200));
        due.is("23 textSize(0)", x.textSize(0), 3);
        due.is("23 textSize(1)", x.textSize(1), 0);
        due.is("23 textSize(2)", x.textSize(2), 200);
        due.is("23 textSize(3)", x.textSize(3), -1);
        due.refused(x, "23 textSize(8)", UNKNOWN, () -> x.textSize(8));
        due.refused(x, "23 textSize(-1)", UNKNOWN, () -> x.textSize(-1));
    }

    private static void signAt() {
        RowsOfSigns x = with("ab\u00ff", "");
        due.is("24 signAt(0, 0)", x.signAt(0, 0), 'a');
        due.is("24 signAt(0, 2)", x.signAt(0, 2), 255);
        due.refused(x, "24 signAt(0, 3)", PLACE, () -> x.signAt(0, 3));
        due.refused(x, "24 signAt(0, -1)", PLACE, () -> x.signAt(0, -1));
        due.refused(x, "24 signAt(1, 0)", PLACE, () -> x.signAt(1, 0));
        due.refused(x, "24 signAt(2, -1)", MISSING, () -> x.signAt(2, -1));
        due.refused(x, "24 signAt(8, -1)", UNKNOWN, () -> x.signAt(8, -1));
        x.sub(0, 0, 1, 0);
        due.refused(x, "24 signAt(0, 1) of the new text", PLACE, () -> x.signAt(0, 1));
    }

    private static void firstSign() {
        RowsOfSigns x = with("abca\u0000", "");
        due.is("25 firstSign(0, a, 0)", x.firstSign(0, 'a', 0), 0);
        due.is("25 firstSign(0, a, 1)", x.firstSign(0, 'a', 1), 3);
        due.is("25 firstSign(0, a, 3)", x.firstSign(0, 'a', 3), 3);
        due.is("25 firstSign(0, a, 4)", x.firstSign(0, 'a', 4), -1);
        due.is("25 firstSign(0, a, MIN)", x.firstSign(0, 'a', MIN), 0);
        due.is("25 firstSign(0, a, MAX)", x.firstSign(0, 'a', MAX), -1);
        due.is("25 firstSign(0, 0, 0)", x.firstSign(0, 0, 0), 4);
        due.is("25 firstSign(0, 255, 0)", x.firstSign(0, 255, 0), -1);
        due.is("25 firstSign(1, a, 0)", x.firstSign(1, 'a', 0), -1);
        due.refused(x, "25 firstSign(2, a, 0)", MISSING, () -> x.firstSign(2, 'a', 0));
        due.refused(x, "25 firstSign(2, 256, 0)", OUTSIDE, () -> x.firstSign(2, 256, 0));
        due.refused(x, "25 firstSign(0, -1, 0)", OUTSIDE, () -> x.firstSign(0, -1, 0));
        due.refused(x, "25 firstSign(8, -1, 0)", UNKNOWN, () -> x.firstSign(8, -1, 0));
    }

    private static void lastSign() {
        RowsOfSigns x = with("abca\u0000", "");
        due.is("26 lastSign(0, a, 4)", x.lastSign(0, 'a', 4), 3);
        due.is("26 lastSign(0, a, 3)", x.lastSign(0, 'a', 3), 3);
        due.is("26 lastSign(0, a, 2)", x.lastSign(0, 'a', 2), 0);
        due.is("26 lastSign(0, a, 0)", x.lastSign(0, 'a', 0), 0);
        due.is("26 lastSign(0, a, -1)", x.lastSign(0, 'a', -1), -1);
        due.is("26 lastSign(0, a, MIN)", x.lastSign(0, 'a', MIN), -1);
        due.is("26 lastSign(0, a, MAX)", x.lastSign(0, 'a', MAX), 3);
        due.is("26 lastSign(0, 0, MAX)", x.lastSign(0, 0, MAX), 4);
        due.is("26 lastSign(1, a, 9)", x.lastSign(1, 'a', 9), -1);
        due.refused(x, "26 lastSign(2, a, 0)", MISSING, () -> x.lastSign(2, 'a', 0));
        due.refused(x, "26 lastSign(2, 256, 0)", OUTSIDE, () -> x.lastSign(2, 256, 0));
        due.refused(x, "26 lastSign(0, -1, 0)", OUTSIDE, () -> x.lastSign(0, -1, 0));
        due.refused(x, "26 lastSign(-1, -1, 0)", UNKNOWN, () -> x.lastSign(-1, -1, 0));
    }

    private static void firstText() {
        RowsOfSigns x = with("aaab", "aab", "", "b");
        due.is("27 firstText(0, 1, 0)", x.firstText(0, 1, 0), 1);
        due.is("27 firstText(0, 1, 1)", x.firstText(0, 1, 1), 1);
        due.is("27 firstText(0, 1, 2)", x.firstText(0, 1, 2), -1);
        due.is("27 firstText(0, 1, MIN)", x.firstText(0, 1, MIN), 1);
        due.is("27 firstText(0, 1, MAX)", x.firstText(0, 1, MAX), -1);
        due.is("27 firstText(0, 3, 3)", x.firstText(0, 3, 3), 3);
        due.is("27 firstText(0, 2, 2)", x.firstText(0, 2, 2), 2);
        due.is("27 firstText(0, 2, MAX)", x.firstText(0, 2, MAX), 4);
        due.is("27 firstText(2, 2, 1)", x.firstText(2, 2, 1), 0);
        due.is("27 firstText(0, 0, 0)", x.firstText(0, 0, 0), 0);
        due.is("27 firstText(1, 0, 0), longer", x.firstText(1, 0, 0), -1);
        due.refused(x, "27 firstText(0, 4, 0)", MISSING, () -> x.firstText(0, 4, 0));
        due.refused(x, "27 firstText(4, 0, 0)", MISSING, () -> x.firstText(4, 0, 0));
        due.refused(x, "27 firstText(4, 8, 0)", UNKNOWN, () -> x.firstText(4, 8, 0));
        due.refused(x, "27 firstText(-1, 4, 0)", UNKNOWN, () -> x.firstText(-1, 4, 0));
    }

    private static void lastText() {
        RowsOfSigns x = with("abaab", "ab", "", "a");
        due.is("28 lastText(0, 1, 9)", x.lastText(0, 1, 9), 3);
        due.is("28 lastText(0, 1, 3)", x.lastText(0, 1, 3), 3);
        due.is("28 lastText(0, 1, 2)", x.lastText(0, 1, 2), 0);
        due.is("28 lastText(0, 1, -1)", x.lastText(0, 1, -1), -1);
        due.is("28 lastText(0, 1, MIN)", x.lastText(0, 1, MIN), -1);
        due.is("28 lastText(0, 1, MAX)", x.lastText(0, 1, MAX), 3);
        due.is("28 lastText(0, 3, 4)", x.lastText(0, 3, 4), 3);
        due.is("28 lastText(0, 2, 9)", x.lastText(0, 2, 9), 5);
        due.is("28 lastText(0, 2, 1)", x.lastText(0, 2, 1), 1);
        due.is("28 lastText(0, 2, -1)", x.lastText(0, 2, -1), -1);
        due.is("28 lastText(1, 0, 9), longer", x.lastText(1, 0, 9), -1);
        due.refused(x, "28 lastText(0, 4, 0)", MISSING, () -> x.lastText(0, 4, 0));
        due.refused(x, "28 lastText(4, 0, 0)", MISSING, () -> x.lastText(4, 0, 0));
        due.refused(x, "28 lastText(8, 4, 0)", UNKNOWN, () -> x.lastText(8, 4, 0));
        due.refused(x, "28 lastText(4, -1, 0)", UNKNOWN, () -> x.lastText(4, -1, 0));
    }

    private static void region() {
        RowsOfSigns x = with("abcab", "xab");
        due.is("29 region(0, 0, 1, 1, 2)", x.region(0, 0, 1, 1, 2), 1);
        due.is("29 region(0, 3, 1, 1, 2)", x.region(0, 3, 1, 1, 2), 1);
        due.is("29 region(0, 1, 1, 1, 2)", x.region(0, 1, 1, 1, 2), 0);
        due.is("29 region(0, 2, 1, 0, 3)", x.region(0, 2, 1, 0, 3), 0);
        due.is("29 region(0, 3, 1, 1, 3), beyond both", x.region(0, 3, 1, 1, 3), 0);
        due.is("29 region(0, 0, 1, 1, 3), beyond u", x.region(0, 0, 1, 1, 3), 0);
        due.is("29 region(1, 1, 0, 0, 3), beyond t", x.region(1, 1, 0, 0, 3), 0);
        due.is("29 region(0, 0, 0, 3, 2), itself", x.region(0, 0, 0, 3, 2), 1);
        due.is("29 region(0, 5, 1, 3, 0)", x.region(0, 5, 1, 3, 0), 1);
        due.is("29 region(0, 6, 1, 3, 0)", x.region(0, 6, 1, 3, 0), 0);
        due.is("29 region(0, 5, 1, 4, 0)", x.region(0, 5, 1, 4, 0), 0);
        due.is("29 region(0, -1, 1, 0, 0)", x.region(0, -1, 1, 0, 0), 0);
        due.is("29 region(0, 0, 1, -1, 0)", x.region(0, 0, 1, -1, 0), 0);
        due.is("29 region(0, 0, 1, -1, -5)", x.region(0, 0, 1, -1, -5), 0);
        due.is("29 region(0, 9, 1, 7, -4)", x.region(0, 9, 1, 7, -4), 1);
        due.is("29 region(0, 10, 1, 7, -4)", x.region(0, 10, 1, 7, -4), 0);
        due.is("29 region(0, 9, 1, 8, -4)", x.region(0, 9, 1, 8, -4), 0);
        due.is("29 region(0, 0, 1, 0, MIN)", x.region(0, 0, 1, 0, MIN), 1);
        due.is("29 region(0, MAX, 1, MAX, MIN)", x.region(0, MAX, 1, MAX, MIN), 1);
        due.is("29 region(0, MAX, 1, 0, MAX)", x.region(0, MAX, 1, 0, MAX), 0);
        due.is("29 region(0, 0, 1, MAX, 1)", x.region(0, 0, 1, MAX, 1), 0);
        due.is("29 region(0, MIN, 1, MIN, MAX)", x.region(0, MIN, 1, MIN, MAX), 0);
        due.refused(x, "29 region(0, -1, 2, 0, 1)", MISSING, () -> x.region(0, -1, 2, 0, 1));
        due.refused(x, "29 region(2, 0, 0, 0, 1)", MISSING, () -> x.region(2, 0, 0, 0, 1));
        due.refused(x, "29 region(2, 0, 8, 0, 1)", UNKNOWN, () -> x.region(2, 0, 8, 0, 1));
        due.refused(x, "29 region(-1, 0, 2, 0, 1)", UNKNOWN, () -> x.region(-1, 0, 2, 0, 1));
    }

    private static void order() {
        RowsOfSigns x = with("abc", "abz", "ab", "", "\u00ff");
        due.is("30 order(0, 1)", x.order(0, 1), 'c' - 'z');
        due.is("30 order(1, 0)", x.order(1, 0), 'z' - 'c');
        due.is("30 order(0, 2)", x.order(0, 2), 1);
        due.is("30 order(3, 0)", x.order(3, 0), -3);
        due.is("30 order(3, 3)", x.order(3, 3), 0);
        due.is("30 order(0, 4)", x.order(0, 4), 'a' - 255);
        due.is("30 order(4, 3)", x.order(4, 3), 1);
        due.refused(x, "30 order(0, 5)", MISSING, () -> x.order(0, 5));
        due.refused(x, "30 order(5, 0)", MISSING, () -> x.order(5, 0));
        due.refused(x, "30 order(5, 8)", UNKNOWN, () -> x.order(5, 8));
        due.refused(x, "30 order(-1, 5)", UNKNOWN, () -> x.order(-1, 5));
    }

    private static void begins() {
        RowsOfSigns x = with("abcab", "ab", "");
        due.is("31 begins(0, 1, 0)", x.begins(0, 1, 0), 1);
        due.is("31 begins(0, 1, 3)", x.begins(0, 1, 3), 1);
        due.is("31 begins(0, 1, 1)", x.begins(0, 1, 1), 0);
        due.is("31 begins(0, 1, 4)", x.begins(0, 1, 4), 0);
        due.is("31 begins(0, 1, -1)", x.begins(0, 1, -1), 0);
        due.is("31 begins(0, 1, MAX)", x.begins(0, 1, MAX), 0);
        due.is("31 begins(0, 1, MIN)", x.begins(0, 1, MIN), 0);
        due.is("31 begins(0, 2, 5)", x.begins(0, 2, 5), 1);
        due.is("31 begins(0, 2, 6)", x.begins(0, 2, 6), 0);
        due.is("31 begins(0, 2, -1)", x.begins(0, 2, -1), 0);
        due.is("31 begins(1, 0, 0)", x.begins(1, 0, 0), 0);
        due.refused(x, "31 begins(0, 3, 0)", MISSING, () -> x.begins(0, 3, 0));
        due.refused(x, "31 begins(3, 0, -1)", MISSING, () -> x.begins(3, 0, -1));
        due.refused(x, "31 begins(3, 8, 0)", UNKNOWN, () -> x.begins(3, 8, 0));
        due.refused(x, "31 begins(8, 3, 0)", UNKNOWN, () -> x.begins(8, 3, 0));
    }

    private static void swap() {
        RowsOfSigns x = with("abcab", "old");
        due.is("32 swap(0, a, b, 1)", x.swap(0, 'a', 'b', 1), 5);
        due.is("32 swap", Due.text(x, 1), "bbcbb");
        due.is("32 the text stays", Due.text(x, 0), "abcab");
        due.is("32 swap(0, b, 255, 0)", x.swap(0, 'b', 255, 0), 5);
        due.is("32 swap in its own place", Due.text(x, 0), "a\u00ffca\u00ff");
        due.is("32 swap(0, 0, 255, 2)", x.swap(0, 0, 255, 2), 5);
        due.is("32 swap of none", Due.text(x, 2), "a\u00ffca\u00ff");
        due.is("32 swap(0, a, 0, 0)", x.swap(0, 'a', 0, 0), 5);
        due.is("32 swap by 0", Due.text(x, 0), "\u0000\u00ffc\u0000\u00ff");
        due.refused(x, "32 swap(3, a, b, 0)", MISSING, () -> x.swap(3, 'a', 'b', 0));
        due.refused(x, "32 swap(3, a, 256, 0)", OUTSIDE, () -> x.swap(3, 'a', 256, 0));
        due.refused(x, "32 swap(0, -1, b, 0)", OUTSIDE, () -> x.swap(0, -1, 'b', 0));
        due.refused(x, "32 swap(0, 256, b, 0)", OUTSIDE, () -> x.swap(0, 256, 'b', 0));
        due.refused(x, "32 swap(0, a, -1, 0)", OUTSIDE, () -> x.swap(0, 'a', -1, 0));
        due.refused(x, "32 swap(8, -1, b, 0)", UNKNOWN, () -> x.swap(8, -1, 'b', 0));
        due.refused(x, "32 swap(3, a, 256, -1)", UNKNOWN, () -> x.swap(3, 'a', 256, -1));
    }

    private static void sub() {
        RowsOfSigns x = with("abcdef", "old");
        due.is("33 sub(0, 1, 4, 1)", x.sub(0, 1, 4, 1), 3);
        due.is("33 sub", Due.text(x, 1), "bcd");
        due.is("33 the text stays", Due.text(x, 0), "abcdef");
        due.is("33 sub(0, 6, 6, 2)", x.sub(0, 6, 6, 2), 0);
        due.is("33 sub, empty", Due.text(x, 2), "");
        due.is("33 sub(0, 2, 5, 0)", x.sub(0, 2, 5, 0), 3);
        due.is("33 sub in its own place", Due.text(x, 0), "cde");
        due.is("33 sub(0, 0, 3, 0)", x.sub(0, 0, 3, 0), 3);
        due.refused(x, "33 sub(0, 0, 4, 1)", PLACE, () -> x.sub(0, 0, 4, 1));
        due.refused(x, "33 sub(0, -1, 2, 1)", PLACE, () -> x.sub(0, -1, 2, 1));
        due.refused(x, "33 sub(0, 2, 1, 1)", PLACE, () -> x.sub(0, 2, 1, 1));
        due.refused(x, "33 sub(0, MAX, MIN, 1)", PLACE, () -> x.sub(0, MAX, MIN, 1));
        due.refused(x, "33 sub(0, 2, 1, 7), missing still", PLACE, () -> x.sub(0, 2, 1, 7));
        due.refused(x, "33 sub(5, -1, 2, 1)", MISSING, () -> x.sub(5, -1, 2, 1));
        due.refused(x, "33 sub(5, -1, 2, 8)", UNKNOWN, () -> x.sub(5, -1, 2, 8));
        due.refused(x, "33 sub(-1, -1, 2, 5)", UNKNOWN, () -> x.sub(-1, -1, 2, 5));
    }

    private static void trim() {
        RowsOfSigns x = with("\u0000 a \u0020b!\t ", "\u001f \u0020", "", "!", "old");
        due.is("34 trim(0, 4)", x.trim(0, 4), 5);
        due.is("34 trim", Due.text(x, 4), "a  b!");
        due.is("34 the text stays", x.textSize(0), 9);
        due.is("34 trim(1, 4), all blank", x.trim(1, 4), 0);
        due.is("34 trim, all blank", Due.text(x, 4), "");
        due.is("34 trim(2, 5), empty", x.trim(2, 5), 0);
        due.is("34 trim, empty", Due.text(x, 5), "");
        due.is("34 trim(3, 5), no blank", x.trim(3, 5), 1);
        due.is("34 trim(0, 0)", x.trim(0, 0), 5);
        due.is("34 trim in its own place", Due.text(x, 0), "a  b!");
        Due.write(x, 6, "\u00ff\u007f \u00a0");
        due.is("34 trim(6, 6)", x.trim(6, 6), 4);
        due.refused(x, "34 trim(7, 0)", MISSING, () -> x.trim(7, 0));
        due.refused(x, "34 trim(7, 8)", UNKNOWN, () -> x.trim(7, 8));
        due.refused(x, "34 trim(-1, 0)", UNKNOWN, () -> x.trim(-1, 0));
    }

    private static void repeat() {
        RowsOfSigns x = with("abc", "", "x".repeat(100), "old");
        due.is("35 repeat(0, 3, 3)", x.repeat(0, 3, 3), 9);
        due.is("35 repeat", Due.text(x, 3), "abcabcabc");
        due.is("35 the text stays", Due.text(x, 0), "abc");
        due.is("35 repeat(0, 0, 3)", x.repeat(0, 0, 3), 0);
        due.is("35 repeat, none", Due.text(x, 3), "");
        due.is("35 repeat(0, 1, 4)", x.repeat(0, 1, 4), 3);
        due.is("35 repeat(0, 66, 4)", x.repeat(0, 66, 4), 198);
        due.is("35 repeat(1, MAX, 5), empty", x.repeat(1, MAX, 5), 0);
        due.is("35 repeat, empty", Due.text(x, 5), "");
        due.is("35 repeat(2, 2, 2)", x.repeat(2, 2, 2), 200);
        due.is("35 repeat in its own place", Due.text(x, 2), "x".repeat(200));
        due.refused(x, "35 repeat(0, 67, 3)", FULL, () -> x.repeat(0, 67, 3));
        due.refused(x, "35 repeat(0, MAX, 3)", FULL, () -> x.repeat(0, MAX, 3));
        due.refused(x, "35 repeat(2, 1 << 29, 3)", FULL, () -> x.repeat(2, 1 << 29, 3));
        due.refused(x, "35 repeat(0, -1, 3)", COUNT, () -> x.repeat(0, -1, 3));
        due.refused(x, "35 repeat(0, MIN, 3)", COUNT, () -> x.repeat(0, MIN, 3));
        due.refused(x, "35 repeat(1, -1, 7), missing still", COUNT, () -> x.repeat(1, -1, 7));
        due.refused(x, "35 repeat(7, -1, 3)", MISSING, () -> x.repeat(7, -1, 3));
        due.refused(x, "35 repeat(7, -1, 8)", UNKNOWN, () -> x.repeat(7, -1, 8));
        due.refused(x, "35 repeat(-1, 1, 0)", UNKNOWN, () -> x.repeat(-1, 1, 0));
    }

    private static void join() {
        RowsOfSigns x = with("abc", "de", "", "old", "x".repeat(198));
        due.is("36 join(0, 1, 3)", x.join(0, 1, 3), 5);
        due.is("36 join", Due.text(x, 3), "abcde");
        due.is("36 join(1, 2, 5)", x.join(1, 2, 5), 2);
        due.is("36 join(2, 2, 2)", x.join(2, 2, 2), 0);
        due.is("36 join(2, 2, 3)", x.join(2, 2, 3), 0);
        due.is("36 join of empty ones", Due.text(x, 3), "");
        due.is("36 join(0, 1, 1)", x.join(0, 1, 1), 5);
        due.is("36 join into the other", Due.text(x, 1), "abcde");
        due.is("36 join(0, 0, 0)", x.join(0, 0, 0), 6);
        due.is("36 join into both", Due.text(x, 0), "abcabc");
        due.refused(x, "36 join beyond 200", FULL, () -> x.join(4, 0, 3));
        due.refused(x, "36 join beyond 200, the other one", FULL, () -> x.join(0, 4, 0));
        due.is("36 join(4, 5, 4) to 200", x.join(4, 5, 4), 200);
        due.is("36 join to 200", Due.text(x, 4), "x".repeat(198) + "de");
        due.refused(x, "36 join(7, 0, 3)", MISSING, () -> x.join(7, 0, 3));
        due.refused(x, "36 join(4, 7, 3)", MISSING, () -> x.join(4, 7, 3));
        due.refused(x, "36 join(7, 0, 8)", UNKNOWN, () -> x.join(7, 0, 8));
        due.refused(x, "36 join(7, -1, 0)", UNKNOWN, () -> x.join(7, -1, 0));
        due.refused(x, "36 join(8, 7, 0)", UNKNOWN, () -> x.join(8, 7, 0));
    }
}
