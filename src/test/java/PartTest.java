/** Promises 37 to 40: the parts into which a text falls. */
public final class PartTest {
    private static final Due due = new Due();
    private static final int MIN = Integer.MIN_VALUE;
    private static final int MAX = Integer.MAX_VALUE;
    private static final int NONE = -1, UNKNOWN = -1001, OUTSIDE = -1002, MISSING = -1003;

    public static void main(String[] args) {
        splitByLimit();
        splitRefused();
        splitStays();
        parts();
        partTo();
        joined();
        joinedAgain();
        due.end();
    }

    private static RowsOfSigns with(String text0) {
        RowsOfSigns x = new RowsOfSigns();
        Due.write(x, 0, text0);
        return x;
    }

    private static void falls(String text, int limit, String parts) {
        RowsOfSigns x = with(text);
        int bars = 0;
        for (int i = 0; i < parts.length(); i++) {
            bars += parts.charAt(i) == '|' ? 1 : 0;
        }
        String call = "37 split of " + text + " by a comma, limit " + limit;
        due.is(call, x.split(0, ',', limit), bars - 1);
        due.is(call, Due.parts(x), parts);
        due.is(call + ", the text stays", Due.text(x, 0), text);
    }

    private static void splitByLimit() {
        falls("a,b,c", 0, "|a|b|c|");
        falls("a,b,c", -1, "|a|b|c|");
        falls("a,b,c", MIN, "|a|b|c|");
        falls("a,b,c", 1, "|a,b,c|");
        falls("a,b,c", 2, "|a|b,c|");
        falls("a,b,c", 3, "|a|b|c|");
        falls("a,b,c", 4, "|a|b|c|");
        falls("a,b,c", MAX, "|a|b|c|");
        falls(",a,,b,,", 0, "||a||b|");
        falls(",a,,b,,", -1, "||a||b|||");
        falls(",a,,b,,", 2, "||a,,b,,|");
        falls(",a,,b,,", 6, "||a||b|||");
        falls(",a,,b,,", 5, "||a||b|,|");
        falls(",,", 0, "|");
        falls(",,", -1, "||||");
        falls(",,", 1, "|,,|");
        falls(",", 0, "|");
        falls("", 0, "||");
        falls("", -1, "||");
        falls("", 1, "||");
        falls("abc", 0, "|abc|");
        falls("abc", -1, "|abc|");
        RowsOfSigns x = with(",".repeat(200));
        due.is("37 200 separators, limit -1", x.split(0, ',', -1), 201);
        due.is("37 200 separators, limit 0", x.split(0, ',', 0), 0);
        due.is("37 200 separators, limit 200", x.split(0, ',', 200), 200);
        due.is("37 the last part", x.partTo(199, 1), 1);
        RowsOfSigns y = with("a\u00ffb\u0000c");
        due.is("37 separator 255", y.split(0, 255, 0), 2);
        due.is("37 separator 0", y.split(0, 0, 0), 2);
        due.is("37 separator 1, not there", y.split(0, 1, 0), 1);
    }

    private static void splitRefused() {
        RowsOfSigns x = with("a$b(c)d*e+f.g?h[i\\j^k{l|m,n");
        x.split(0, ',', 0);
        int allowed = 0;
        for (int sign = 0; sign < 256; sign++) {
            if ("$()*+.?[\\^{|".indexOf(sign) >= 0) {
                int separator = sign;
                due.refused(x, "37 split by " + sign, OUTSIDE, () -> x.split(0, separator, 0));
            } else {
                allowed += x.split(0, sign, -1) >= 1 ? 1 : 0;
            }
        }
        due.is("37 separators that are allowed", allowed, 244);
        x.split(0, ',', 0);
        due.refused(x, "37 split(0, -1, 0)", OUTSIDE, () -> x.split(0, -1, 0));
        due.refused(x, "37 split(0, 256, 0)", OUTSIDE, () -> x.split(0, 256, 0));
        due.refused(x, "37 split(1, 46, 0)", OUTSIDE, () -> x.split(1, 46, 0));
        due.refused(x, "37 split(1, 44, 0)", MISSING, () -> x.split(1, 44, 0));
        due.refused(x, "37 split(8, 46, 0)", UNKNOWN, () -> x.split(8, 46, 0));
        due.refused(x, "37 split(-1, 44, 0)", UNKNOWN, () -> x.split(-1, 44, 0));
    }

    private static void splitStays() {
        RowsOfSigns x = with("a,bc");
        x.split(0, ',', 0);
        x.swap(0, 'b', 'z', 0);
        due.is("37 the text became another one", Due.parts(x), "|a|bc|");
        x.forget(0);
        due.is("37 the text is missing", Due.parts(x), "|a|bc|");
        Due.write(x, 0, "d");
        x.split(0, ',', 0);
        due.is("37 split again", Due.parts(x), "|d|");
    }

    private static void parts() {
        RowsOfSigns x = with("a,b,");
        due.is("38 parts() at first", x.parts(), 0);
        x.split(0, ',', 0);
        due.is("38 parts() of limit 0", x.parts(), 2);
        x.split(0, ',', -1);
        due.is("38 parts() of limit -1", x.parts(), 3);
        Due.write(x, 0, ",");
        x.split(0, ',', 0);
        due.is("38 parts() of one separator", x.parts(), 0);
    }

    private static void partTo() {
        RowsOfSigns x = with("ab,,cde");
        due.refused(x, "39 partTo(0, 0), no parts", NONE, () -> x.partTo(0, 0));
        x.split(0, ',', 0);
        due.is("39 partTo(2, 1)", x.partTo(2, 1), 3);
        due.is("39 part 2", Due.text(x, 1), "cde");
        due.is("39 partTo(1, 1)", x.partTo(1, 1), 0);
        due.is("39 part 1", Due.text(x, 1), "");
        due.is("39 partTo(0, 0)", x.partTo(0, 0), 2);
        due.is("39 part 0 in the place of the text", Due.text(x, 0), "ab");
        due.refused(x, "39 partTo(3, 0)", NONE, () -> x.partTo(3, 0));
        due.refused(x, "39 partTo(-1, 0)", NONE, () -> x.partTo(-1, 0));
        due.refused(x, "39 partTo(MAX, 7)", NONE, () -> x.partTo(MAX, 7));
        due.refused(x, "39 partTo(3, 8)", UNKNOWN, () -> x.partTo(3, 8));
        due.refused(x, "39 partTo(0, -1)", UNKNOWN, () -> x.partTo(0, -1));
        Due.write(x, 2, ",,");
        x.split(2, ',', 0);
        due.refused(x, "39 partTo(0, 0), all dropped", NONE, () -> x.partTo(0, 0));
    }

    private static void joined() {
        RowsOfSigns x = with("ab,,cd,");
        due.is("40 joined(44, 1), no parts", x.joined(44, 1), 0);
        due.is("40 joined, no parts", Due.text(x, 1), "");
        x.split(0, ',', 0);
        due.is("40 joined(46, 1)", x.joined(46, 1), 6);
        due.is("40 joined by 46", Due.text(x, 1), "ab..cd");
        due.is("40 joined(0, 0)", x.joined(0, 0), 6);
        due.is("40 joined by 0", Due.text(x, 0), "ab\u0000\u0000cd");
        due.is("40 joined(255, 0)", x.joined(255, 0), 6);
        due.is("40 the parts stay", Due.parts(x), "|ab||cd|");
        due.refused(x, "40 joined(256, 0)", OUTSIDE, () -> x.joined(256, 0));
        due.refused(x, "40 joined(-1, 0)", OUTSIDE, () -> x.joined(-1, 0));
        due.refused(x, "40 joined(-1, 8)", UNKNOWN, () -> x.joined(-1, 8));
        due.refused(x, "40 joined(44, -1)", UNKNOWN, () -> x.joined(44, -1));
        Due.write(x, 2, "x");
        x.split(2, ',', 0);
        due.is("40 joined, one part", x.joined(44, 3), 1);
        Due.write(x, 2, "");
        x.split(2, ',', 0);
        due.is("40 joined, one empty part", x.joined(44, 3), 0);
    }

    /** What always holds (3). */
    private static void joinedAgain() {
        String[] texts = {"", ",", ",,a", "a,b", "a,b,,", ",".repeat(200), "x".repeat(200), ",x".repeat(100)};
        for (String text : texts) {
            for (int limit = -1; limit < 6; limit++) {
                RowsOfSigns x = with(text);
                x.split(0, ',', limit);
                x.joined(',', 1);
                String want = limit == 0 ? text.replaceAll(",+$", "") : text;
                due.is("40 joined again, limit " + limit, Due.text(x, 1), want);
            }
        }
    }
}
