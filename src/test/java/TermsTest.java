import java.util.ArrayList;
import java.util.List;

/** The section "Terms" of the document; a test of each sentence. */
public final class TermsTest {
    private static final String TERMS = "Terms";
    private static final Due due = new Due(TERMS);
    private static final int MIN = Integer.MIN_VALUE;
    private static final int MAX = Integer.MAX_VALUE;
    private static final int NONE = -1, UNKNOWN = -1001, OUTSIDE = -1002, MISSING = -1003, COUNT = -1004;
    private static final int PLACE = -1005, ENDED = -1006, FULL = -1007;

    public static void main(String[] args) {
        whatAlwaysHolds();
        refusals();
        signsAndPlaces();
        buildersAndTexts();
        textsMadeAnew();
        namedRows();
        joiningIn();
        standing();
        firstAndLast();
        order();
        separators();
        limits();
        parts();
        cutters();
        tokens();
        constants();
        due.end();
    }

    /** All rows of so many signs at most, of these signs. */
    private static List<String> rows(int most, String signs) {
        List<String> all = new ArrayList<>();
        all.add("");
        for (int i = 0; i < all.size(); i++) {
            if (all.get(i).length() < most) {
                for (char sign : signs.toCharArray()) {
                    all.add(all.get(i) + sign);
                }
            }
        }
        return all;
    }

    /** Builder 0 is row, text 0 is UVW; the call leaves row, but in place of what lies between two places. */
    private static void cuts(String row, String call, int from, int to, String joinedIn, Due.Call made) {
        RowsOfSigns x = Rows.with(row, "UVW");
        String want = row.substring(0, from) + joinedIn + row.substring(to);
        due.is(call + " of " + row, made.on(x), want.length());
        due.is(call + " of " + row, Rows.builder(x, 0), want);
    }

    private static void cutsAt(String row, int at) {
        cuts(row, "insert(0, " + at + ", 0)", at, at, "UVW", x -> x.insert(0, at, 0));
        cuts(row, "insert(0, " + at + ", 1), missing", at, at, "null", x -> x.insert(0, at, 1));
        cuts(row, "insertPart(0, " + at + ", 0, 1, 3)", at, at, "VW", x -> x.insertPart(0, at, 0, 1, 3));
        cuts(row, "insertSign(0, " + at + ", 85)", at, at, "U", x -> x.insertSign(0, at, 'U'));
        if (at < row.length()) {
            cuts(row, "deleteAt(0, " + at + ")", at, at + 1, "", x -> x.deleteAt(0, at));
            RowsOfSigns x = Rows.with(row);
            due.is("put(0, " + at + ", 85) of " + row, x.put(0, at, 'U'), row.charAt(at));
            due.is("put(0, " + at + ", 85) of " + row, Rows.builder(x, 0),
                    row.substring(0, at) + "U" + row.substring(at + 1));
        }
        for (int past = at; past <= row.length(); past++) {
            int to = past;
            cuts(row, "delete(0, " + at + ", " + to + ")", at, to, "", x -> x.delete(0, at, to));
            cuts(row, "replace(0, " + at + ", " + to + ", 0)", at, to, "UVW", x -> x.replace(0, at, to, 0));
        }
    }

    private static void whatAlwaysHolds() {
        due.test(TERMS, "WHAT ALWAYS HOLDS. Take any sequence of calls, whatever their numbers. (1) A call that "
                + "changes a BUILDER cuts its row at two PLACES, which may be one, drops what lies between, and joins "
                + "a row in there: no SIGN ahead of the first and none behind the second is another one, or stands "
                + "elsewhere among these", () -> {
            for (String row : new String[] {"", "a", "ab", "abc", "abcde"}) {
                int end = row.length();
                cuts(row, "sign(0, 85)", end, end, "U", x -> x.sign(0, 'U'));
                cuts(row, "signs(0, 2, UV)", end, end, "UV", x -> x.signs(0, 2, 0x5556));
                cuts(row, "text(0, 0)", end, end, "UVW", x -> x.text(0, 0));
                cuts(row, "part(0, 0, 0, 2)", end, end, "UV", x -> x.part(0, 0, 0, 2));
                cuts(row, "number(0, -7)", end, end, "-7", x -> x.number(0, -7));
                for (int at = 0; at <= end; at++) {
                    cutsAt(row, at);
                }
            }
        });
        due.test(TERMS, "(2) To turn a BUILDER round twice leaves it as it was", () -> {
            for (int size : new int[] {0, 1, 2, 3, 4, 199, 200}) {
                String row = "abcdefghij".repeat(20).substring(0, size);
                RowsOfSigns x = Rows.with(row);
                x.reverse(0);
                due.is("reverse(0) of " + size, Rows.builder(x, 0), new StringBuilder(row).reverse().toString());
                RowsOfSigns y = Rows.with(row);
                y.reverse(0);
                y.reverse(0);
                due.is("reverse(0) twice of " + size, Rows.builder(y, 0), row);
            }
        });
        due.test(TERMS, "(3) The PARTS of a TEXT by a separator, joined by that again, are the TEXT, but for "
                + "separators at its end, where the limit is 0", () -> {
            List<String> all = rows(5, "a,");
            all.add(",".repeat(200));
            all.add("x".repeat(200));
            all.add(",x".repeat(100));
            all.add("x,".repeat(100));
            for (String row : all) {
                for (int limit = -1; limit <= 7; limit++) {
                    RowsOfSigns x = Rows.with("", row);
                    x.split(0, ',', limit);
                    x.joined(',', 1);
                    String want = limit == 0 ? row.replaceAll(",+$", "") : row;
                    due.is("joined(44, 1) behind split(0, 44, " + limit + ") of " + row, Rows.text(x, 1), want);
                }
            }
        });
        due.test(TERMS, "(4) The tokens of a CUTTER whose separators stay the same, and the gaps ahead of them, "
                + "between them and behind the last, one behind the other, are its TEXT: each SIGN of a gap is a "
                + "separator; no SIGN of a token is, but where separators are given, too: then there are no gaps, "
                + "and each separator is a token by itself", () -> {
            for (String separators : new String[] {"", ",", ",;", "ab,;"}) {
                for (String row : rows(4, "ab,;")) {
                    cutAgain(row, separators, false);
                    cutAgain(row, separators, true);
                }
            }
        });
    }

    /** How far signs that are separators, or are none, go on from a place. */
    private static int passed(String row, int from, String separators, boolean areSeparators) {
        int to = from;
        while (to < row.length() && separators.indexOf(row.charAt(to)) >= 0 == areSeparators) {
            to++;
        }
        return to;
    }

    private static void cutAgain(String row, String separators, boolean gives) {
        String call = "the tokens of " + row + " by " + separators + (gives ? ", given" : "");
        RowsOfSigns x = Rows.with("", row, separators);
        int count = x.cutter(0, 0, 1, gives);
        int place = 0;
        for (int i = 0; i < count; i++) {
            int start = gives ? place : passed(row, place, separators, true);
            boolean alone = gives && passed(row, start, separators, true) > start;
            place = alone ? start + 1 : passed(row, start, separators, false);
            due.is(call + ", next(0, 2)", x.next(0, 2), place - start);
            due.is(call + ", next(0, 2)", Rows.text(x, 2), row.substring(start, place));
        }
        due.is(call + ", the end", gives ? place : passed(row, place, separators, true), row.length());
        due.is(call + ", more(0) at the end", x.more(0), 0);
    }

    private static void refusals() {
        due.test(TERMS, "Each call answers a number. REFUSALS: UNKNOWN (there is no such BUILDER, TEXT, CUTTER)",
                () -> {
            due.bounds(() -> Rows.alike("a"), "size(b)", 0, 1, 3, 1, UNKNOWN, (x, b) -> x.size(b));
            due.bounds(() -> Rows.alike("a"), "textSize(t)", 0, 1, 7, 1, UNKNOWN, (x, t) -> x.textSize(t));
            due.bounds(() -> Rows.alike("a"), "left(c)", 0, 1, 1, 1, UNKNOWN, (x, c) -> x.left(c));
        });
        due.test(TERMS, "OUTSIDE (another number is not as told)", () -> {
            due.is("sign(0, 255)", Rows.with("a").sign(0, 255), 2);
            due.refused(() -> Rows.with("a"), "sign(0, 256)", OUTSIDE, x -> x.sign(0, 256));
            due.is("signs(0, 8, 0)", Rows.with("a").signs(0, 8, 0), 9);
            due.refused(() -> Rows.with("a"), "signs(0, 9, 0)", OUTSIDE, x -> x.signs(0, 9, 0));
        });
        due.test(TERMS, "MISSING (a TEXT, a CUTTER is MISSING that may not be)", () -> {
            due.refused(() -> Rows.with("a"), "signAt(0, 0)", MISSING, x -> x.signAt(0, 0));
            due.refused(() -> Rows.with("a"), "more(0)", MISSING, x -> x.more(0));
            due.is("text(0, 0), it may be", Rows.with("a").text(0, 0), 5);
        });
        due.test(TERMS, "COUNT (how many is below 0)", () -> {
            due.is("length(0, 0)", Rows.with("a").length(0, 0), 1);
            due.refused(() -> Rows.with("a"), "length(0, -1)", COUNT, x -> x.length(0, -1));
            due.is("repeat(0, 0, 0)", Rows.with("", "a").repeat(0, 0, 0), 0);
            due.refused(() -> Rows.with("", "a"), "repeat(0, -1, 0)", COUNT, x -> x.repeat(0, -1, 0));
        });
        due.test(TERMS, "PLACE (as told)", () -> {
            due.is("at(0, 0)", Rows.with("a").at(0, 0), 'a');
            due.refused(() -> Rows.with("a"), "at(0, 1)", PLACE, x -> x.at(0, 1));
        });
        due.test(TERMS, "ENDED (there is no token any more)", () -> {
            RowsOfSigns x = Rows.with("", "a");
            x.cutter(0, 0, 0, true);
            due.is("next(0, 1)", x.next(0, 1), 1);
            due.is("next(0, 1) again", x.next(0, 1), ENDED);
        });
        due.test(TERMS, "FULL (a row would have more SIGNS than it may)", () -> {
            due.is("sign(0, 97) to 200", Rows.with("x".repeat(199)).sign(0, 97), 200);
            due.refused(() -> Rows.with("x".repeat(200)), "sign(0, 97) to 201", FULL, x -> x.sign(0, 97));
        });
        due.test(TERMS, "of several the first in this order, whichever argument it is of. What is refused changes "
                + "nothing, but as next() and nextBy() tell", () -> Refusals.all(due));
        due.test(TERMS, "NONE is -1: there is none", () -> {
            due.is("firstSign(0, b, 0)", Rows.with("", "a").firstSign(0, 'b', 0), -1);
            due.is("textSize(0)", Rows.with("").textSize(0), -1);
        });
    }

    private static void signsAndPlaces() {
        due.test(TERMS, "A SIGN is a number 0 to 255", () -> {
            Due.Setup setup = () -> Rows.with("ab", "a\u0000\u00ffa");
            due.signs(setup, "sign(0, s)", 3, 3, (x, s) -> x.sign(0, s));
            due.signs(setup, "insertSign(0, 0, s)", 3, 3, (x, s) -> x.insertSign(0, 0, s));
            due.signs(setup, "put(0, 0, s)", 'a', 'a', (x, s) -> x.put(0, 0, s));
            due.signs(setup, "firstSign(0, s, 0)", 1, 2, (x, s) -> x.firstSign(0, s, 0));
            due.signs(setup, "lastSign(0, s, 9)", 1, 2, (x, s) -> x.lastSign(0, s, 9));
            due.signs(setup, "swap(0, s, 97, 1)", 4, 4, (x, s) -> x.swap(0, s, 'a', 1));
            due.signs(setup, "swap(0, 97, s, 1)", 4, 4, (x, s) -> x.swap(0, 'a', s, 1));
            due.signs(setup, "split(0, s, 0)", 2, 2, (x, s) -> x.split(0, s, 0));
            due.signs(setup, "joined(s, 0)", 0, 0, (x, s) -> x.joined(s, 0));
            RowsOfSigns x = new RowsOfSigns();
            for (int sign = 0; sign < 200; sign++) {
                x.sign(0, sign);
                due.is("at(0, " + sign + ")", x.at(0, sign), sign);
            }
            for (int sign = 200; sign < 256; sign++) {
                due.is("put(0, 0, " + sign + ") behind another one", x.put(0, 0, sign), sign == 200 ? 0 : sign - 1);
            }
        });
        due.test(TERMS, "A row of SIGNS has PLACES, from 0 on", () -> {
            RowsOfSigns x = Rows.with("abc", "xyz");
            due.is("at(0, 0)", x.at(0, 0), 'a');
            due.is("at(0, -1)", x.at(0, -1), PLACE);
            due.is("signAt(0, 0)", x.signAt(0, 0), 'x');
            due.is("signAt(0, -1)", x.signAt(0, -1), PLACE);
            due.is("put(0, 0, 65)", x.put(0, 0, 'A'), 'a');
            due.is("put(0, -1, 65)", x.put(0, -1, 'A'), PLACE);
            due.is("deleteAt(0, 0)", x.deleteAt(0, 0), 2);
            due.is("deleteAt(0, -1)", x.deleteAt(0, -1), PLACE);
            due.is("at(0, 1)", x.at(0, 1), 'c');
            due.is("at(0, 2)", x.at(0, 2), PLACE);
        });
        due.test(TERMS, "\"FROM a TO b\" of a row are its SIGNS at the PLACES a up to b less 1: none, if a is b",
                () -> {
            String row = "abcd";
            for (int from = 0; from <= 4; from++) {
                for (int to = from; to <= 4; to++) {
                    fromTo(row, from, to);
                }
            }
        });
        due.test(TERMS, "BUILDERS, TEXTS and PARTS are rows of 0 to 200 SIGNS", () -> {
            RowsOfSigns x = Rows.with("x".repeat(200), "");
            due.is("size(0)", x.size(0), 200);
            due.is("sign(0, 97)", x.sign(0, 'a'), FULL);
            due.is("size(1)", x.size(1), 0);
            due.is("take(0, 0, 200, 1)", x.take(0, 0, 200, 1), 200);
            due.is("textSize(0)", x.textSize(0), 0);
            due.is("take(0, 5, 5, 2)", x.take(0, 5, 5, 2), 0);
            due.is("split(1, 44, 0)", x.split(1, ',', 0), 1);
            due.is("partTo(0, 3), a part of 200", x.partTo(0, 3), 200);
            due.is("join(3, 0, 4)", x.join(3, 0, 4), 200);
            due.is("sub(3, 0, 1, 5)", x.sub(3, 0, 1, 5), 1);
            due.is("join(3, 5, 4)", x.join(3, 5, 4), FULL);
            due.is("join(5, 3, 4)", x.join(5, 3, 4), FULL);
            due.is("repeat(5, 200, 4)", x.repeat(5, 200, 4), 200);
            due.is("repeat(5, 201, 4)", x.repeat(5, 201, 4), FULL);
            due.is("split(5, 120, -1)", x.split(5, 'x', -1), 2);
            due.is("partTo(0, 3), a part of none", x.partTo(0, 3), 0);
            due.is("length(0, 200)", x.length(0, 200), 200);
            due.is("length(0, 201)", x.length(0, 201), FULL);
        });
    }

    private static void fromTo(String row, int from, int to) {
        RowsOfSigns x = Rows.with(row, row);
        String want = row.substring(from, to);
        String places = " from " + from + " to " + to;
        due.is("part()" + places, x.part(1, 0, from, to), to - from);
        due.is("part()" + places, Rows.builder(x, 1), want);
        due.is("insertPart()" + places, x.insertPart(2, 0, 0, from, to), to - from);
        due.is("insertPart()" + places, Rows.builder(x, 2), want);
        due.is("take()" + places, x.take(0, from, to, 1), to - from);
        due.is("take()" + places, Rows.text(x, 1), want);
        due.is("sub()" + places, x.sub(0, from, to, 2), to - from);
        due.is("sub()" + places, Rows.text(x, 2), want);
        due.is("delete()" + places, x.delete(0, from, to), 4 - (to - from));
        due.is("delete()" + places, Rows.builder(x, 0), row.substring(0, from) + row.substring(to));
        Rows.build(x, 0, row);
        due.is("replace()" + places, x.replace(0, from, to, 0), 8 - (to - from));
        due.is("replace()" + places, Rows.builder(x, 0), row.substring(0, from) + row + row.substring(to));
    }

    private static void buildersAndTexts() {
        due.test(TERMS, "There are always BUILDERS 0 to 3, empty at first", () -> {
            RowsOfSigns x = new RowsOfSigns();
            due.is("size(-1)", x.size(-1), UNKNOWN);
            for (int b = 0; b < 4; b++) {
                due.is("size(" + b + ") at first", x.size(b), 0);
            }
            due.is("size(4)", x.size(4), UNKNOWN);
            for (int b = 0; b < 4; b++) {
                due.is("sign(" + b + ", ..)", x.sign(b, 'a' + b), 1);
            }
            for (int b = 0; b < 4; b++) {
                due.is("at(" + b + ", 0), each has its own", x.at(b, 0), 'a' + b);
                due.is("deleteAt(" + b + ", 0)", x.deleteAt(b, 0), 0);
                due.is("size(" + b + "), it is there still", x.size(b), 0);
            }
        });
        due.test(TERMS, "and TEXTS 0 to 7, each of which is MISSING, as at first, or a row, perhaps an empty one",
                () -> {
            RowsOfSigns x = Rows.with("abcdefgh");
            due.is("textSize(-1)", x.textSize(-1), UNKNOWN);
            for (int t = 0; t < 8; t++) {
                due.is("textSize(" + t + ") at first", x.textSize(t), NONE);
            }
            due.is("textSize(8)", x.textSize(8), UNKNOWN);
            for (int t = 0; t < 8; t++) {
                due.is("take(0, ..), each has its own", x.take(0, t, t + 1, t), 1);
            }
            for (int t = 0; t < 8; t++) {
                due.is("signAt(" + t + ", 0)", x.signAt(t, 0), 'a' + t);
                due.is("take(0, 3, 3, " + t + ")", x.take(0, 3, 3, t), 0);
                due.is("textSize(" + t + "), empty", x.textSize(t), 0);
                due.is("forget(" + t + "), empty", x.forget(t), 1);
                due.is("textSize(" + t + "), forgotten", x.textSize(t), NONE);
            }
        });
    }

    private static void textsMadeAnew() {
        due.test(TERMS, "A TEXT is never changed; another one, or none, takes its place", () -> {
            RowsOfSigns x = Rows.with("a,b", "a,b", ",", "XY");
            x.text(1, 0);
            x.split(0, ',', 0);
            x.cutter(0, 0, 1, false);
            x.take(0, 0, 3, 3);
            x.put(0, 0, 'z');
            due.is("the builder that it was taken of is changed", Rows.text(x, 3), "a,b");
            due.is("sub(2, 0, 2, 0), another one", x.sub(2, 0, 2, 0), 2);
            due.is("forget(1), none", x.forget(1), 1);
            due.is("the builder to which it was appended", Rows.builder(x, 1), "a,b");
            due.is("the parts into which it fell", x.parts(), 2);
            due.is("joined(44, 6)", x.joined(',', 6), 3);
            due.is("the parts into which it fell", Rows.text(x, 6), "a,b");
            due.is("the cutter that was made of it", Rows.tokens(x, 0), "|a|b|");
            due.is("the text of which it was made", Rows.text(x, 2), "XY");
        });
        due.test(TERMS, "Where a call makes a TEXT, it may be one of those that it looks at", () -> {
            makes("sub(0, 1, 4, 0)", x -> x.sub(0, 1, 4, 0), 0, "a,b");
            makes("sub(0, 0, 5, 0)", x -> x.sub(0, 0, 5, 0), 0, " a,b ");
            makes("trim(0, 0)", x -> x.trim(0, 0), 0, "a,b");
            makes("swap(0, 97, 98, 0)", x -> x.swap(0, 'a', 'b', 0), 0, " b,b ");
            makes("repeat(0, 2, 0)", x -> x.repeat(0, 2, 0), 0, " a,b  a,b ");
            makes("repeat(0, 1, 0)", x -> x.repeat(0, 1, 0), 0, " a,b ");
            makes("repeat(0, 0, 0)", x -> x.repeat(0, 0, 0), 0, "");
            makes("join(0, 1, 0)", x -> x.join(0, 1, 0), 0, " a,b ,");
            makes("join(0, 1, 1)", x -> x.join(0, 1, 1), 1, " a,b ,");
            makes("join(1, 1, 1)", x -> x.join(1, 1, 1), 1, ",,");
            makes("next(0, 0)", x -> x.next(0, 0), 0, " a");
            makes("next(0, 1)", x -> x.next(0, 1), 1, " a");
            makes("nextBy(0, 1, 1)", x -> x.nextBy(0, 1, 1), 1, " a");
            makes("nextBy(1, 0, 0)", x -> x.nextBy(1, 0, 0), 0, " ");
            makes("partTo(0, 0)", x -> x.partTo(0, 0), 0, " a");
            makes("joined(59, 0)", x -> x.joined(';', 0), 0, " a;b ");
        });
    }

    /** Text 0 is " a,b ", text 1 the comma; the parts and the cutters are of these, cutter 1 gives separators. */
    private static void makes(String call, Due.Call made, int t, String row) {
        RowsOfSigns x = Rows.with("", " a,b ", ",");
        x.split(0, ',', 0);
        x.cutter(0, 0, 1, false);
        x.cutter(1, 0, 1, true);
        due.is(call, made.on(x), row.length());
        due.is(call, Rows.text(x, t), row);
    }

    private static void number(long v, String want) {
        RowsOfSigns x = new RowsOfSigns();
        due.is("number(0, " + v + ")", x.number(0, v), want.length());
        due.is("number(0, " + v + ")", Rows.builder(x, 0), want);
    }

    private static void namedRows() {
        due.test(TERMS, "THE FOUR is the row of the SIGNS 110, 117, 108, 108", () -> {
            RowsOfSigns x = new RowsOfSigns();
            due.is("text(0, 0)", x.text(0, 0), 4);
            due.is("at(0, 0)", x.at(0, 0), 110);
            due.is("at(0, 1)", x.at(0, 1), 117);
            due.is("at(0, 2)", x.at(0, 2), 108);
            due.is("at(0, 3)", x.at(0, 3), 108);
        });
        due.test(TERMS, "A number as SIGNS: 45 ahead, if it is below 0; then its figures to the base ten, "
                + "48 for 0 to 57 for 9, the first of several not 0", () -> {
            number(-1, "-1");
            number(0, "0");
            number(1, "1");
            for (int figure = 0; figure <= 9; figure++) {
                number(figure, String.valueOf((char) (48 + figure)));
            }
            for (int zeros = 1; zeros <= 18; zeros++) {
                long ten = Long.parseLong("1" + "0".repeat(zeros));
                number(ten - 1, "9".repeat(zeros));
                number(ten, "1" + "0".repeat(zeros));
                number(-ten + 1, "-" + "9".repeat(zeros));
                number(-ten, "-1" + "0".repeat(zeros));
            }
            number(Integer.MAX_VALUE, "2147483647");
            number(Integer.MIN_VALUE, "-2147483648");
            number(Integer.MAX_VALUE + 1L, "2147483648");
            number(Integer.MIN_VALUE - 1L, "-2147483649");
            number(Long.MAX_VALUE, "9223372036854775807");
            number(-Long.MAX_VALUE, "-9223372036854775807");
            number(Long.MIN_VALUE, "-9223372036854775808");
            number(1234567890987654321L, "1234567890987654321");
        });
    }

    /** Text 0 is missing, text 1 is the four, text 2 is empty. */
    private static RowsOfSigns asTheFour(String builder0) {
        return Rows.with(builder0, null, "null", "");
    }

    /** The call does with a missing text as it does with the four. */
    private static void alike(String builder0, String call, Due.CallWith made) {
        RowsOfSigns missing = asTheFour(builder0);
        RowsOfSigns four = asTheFour(builder0);
        due.is(call + " of a missing text", made.on(missing, 0), made.on(four, 1));
        due.is(call + " of a missing text", Rows.builder(missing, 0), Rows.builder(four, 0));
        due.is(call + " leaves it missing", missing.textSize(0), NONE);
    }

    private static void joiningIn() {
        due.test(TERMS, "To join a row in at a PLACE of another one lets the SIGNS of that from there on stand behind "
                + "it. What is appended is joined in at the end", () -> {
            cuts("abc", "insert(0, 0, 0)", 0, 0, "UVW", x -> x.insert(0, 0, 0));
            cuts("abc", "insert(0, 2, 0)", 2, 2, "UVW", x -> x.insert(0, 2, 0));
            cuts("abc", "insert(0, 3, 0)", 3, 3, "UVW", x -> x.insert(0, 3, 0));
            cuts("", "insert(0, 0, 0), empty", 0, 0, "UVW", x -> x.insert(0, 0, 0));
            cuts("abc", "text(0, 0)", 3, 3, "UVW", x -> x.text(0, 0));
            cuts("", "text(0, 0), empty", 0, 0, "UVW", x -> x.text(0, 0));
            String many = "ab".repeat(98) + "c";
            cuts(many, "insert(0, 0, 0) to 200", 0, 0, "UVW", x -> x.insert(0, 0, 0));
            cuts(many, "insert(0, 100, 0) to 200", 100, 100, "UVW", x -> x.insert(0, 100, 0));
            cuts(many, "text(0, 0) to 200", 197, 197, "UVW", x -> x.text(0, 0));
        });
        due.test(TERMS, "Where text(), part(), insert(), insertPart() are told a TEXT that is MISSING, they do as if "
                + "it were THE FOUR", () -> {
            for (String row : new String[] {"", "ab", "x".repeat(196), "x".repeat(197), "x".repeat(200)}) {
                alike(row, "text(0, t)", (x, t) -> x.text(0, t));
                alike(row, "insert(0, 0, t)", (x, t) -> x.insert(0, 0, t));
                alike(row, "insert(0, 1, t)", (x, t) -> x.insert(0, 1, t));
                for (int from = -1; from <= 5; from++) {
                    for (int to = -1; to <= 5; to++) {
                        int first = from;
                        int last = to;
                        alike(row, "part(0, t, ..)", (x, t) -> x.part(0, t, first, last));
                        alike(row, "insertPart(0, 0, t, ..)", (x, t) -> x.insertPart(0, 0, t, first, last));
                    }
                }
            }
            due.is("part(0, 0, 1, 4)", asTheFour("ab").part(0, 0, 1, 4), 5);
            due.is("part(0, 0, 1, 5)", asTheFour("ab").part(0, 0, 1, 5), PLACE);
            due.is("insertPart(0, 0, 0, 4, 4)", asTheFour("ab").insertPart(0, 0, 0, 4, 4), 2);
            due.is("insertPart(0, 0, 0, 5, 5)", asTheFour("ab").insertPart(0, 0, 0, 5, 5), PLACE);
            due.is("text(0, 0) to 200", asTheFour("x".repeat(196)).text(0, 0), 200);
            due.is("text(0, 0) to 201", asTheFour("x".repeat(197)).text(0, 0), FULL);
            due.is("text(0, 2), empty", asTheFour("ab").text(0, 2), 2);
            due.is("replace(0, 0, 1, 0), not told there", asTheFour("ab").replace(0, 0, 1, 0), MISSING);
            RowsOfSigns x = asTheFour("ab");
            x.forget(1);
            due.is("text(0, 1), forgotten", x.text(0, 1), 6);
            due.is("text(0, 1), forgotten", Rows.builder(x, 0), "abnull");
        });
        due.test(TERMS, "Where a TO of a BUILDER is beyond its end, in delete() and replace(), it counts as its end",
                () -> {
            for (int to : new int[] {3, 4, 5, 200, 201, MAX}) {
                cuts("abc", "delete(0, 0, " + to + ")", 0, 3, "", x -> x.delete(0, 0, to));
                cuts("abc", "delete(0, 1, " + to + ")", 1, 3, "", x -> x.delete(0, 1, to));
                cuts("abc", "delete(0, 3, " + to + ")", 3, 3, "", x -> x.delete(0, 3, to));
                cuts("abc", "replace(0, 0, " + to + ", 0)", 0, 3, "UVW", x -> x.replace(0, 0, to, 0));
                cuts("abc", "replace(0, 2, " + to + ", 0)", 2, 3, "UVW", x -> x.replace(0, 2, to, 0));
                cuts("abc", "replace(0, 3, " + to + ", 0)", 3, 3, "UVW", x -> x.replace(0, 3, to, 0));
            }
            cuts("abc", "delete(0, 1, 2)", 1, 2, "", x -> x.delete(0, 1, 2));
            cuts("", "delete(0, 0, 1), empty", 0, 0, "", x -> x.delete(0, 0, 1));
            cuts("", "replace(0, 0, 1, 0), empty", 0, 0, "UVW", x -> x.replace(0, 0, 1, 0));
            due.refused(() -> Rows.with("abc"), "take(0, 0, 4, 0), not told there", PLACE, x -> x.take(0, 0, 4, 0));
        });
    }

    private static void standing() {
        due.test(TERMS, "A row STANDS in another one at a PLACE, if all its SIGNS are there, in order, from that PLACE "
                + "on; an empty row STANDS at each PLACE from 0 to how many SIGNS the other one has", () -> {
            RowsOfSigns x = Rows.with("", "abcab", "ab", "abcab", "abcabc", "", "ba", "b");
            for (int at = -1; at <= 6; at++) {
                due.is("begins(0, 1, " + at + ")", x.begins(0, 1, at), at == 0 || at == 3 ? 1 : 0);
                due.is("begins(0, 2, " + at + "), as long", x.begins(0, 2, at), at == 0 ? 1 : 0);
                due.is("begins(0, 3, " + at + "), longer", x.begins(0, 3, at), 0);
                due.is("begins(0, 4, " + at + "), empty", x.begins(0, 4, at), at >= 0 && at <= 5 ? 1 : 0);
                due.is("begins(0, 5, " + at + "), another order", x.begins(0, 5, at), 0);
                due.is("begins(0, 6, " + at + ")", x.begins(0, 6, at), at == 1 || at == 4 ? 1 : 0);
                due.is("begins(4, 4, " + at + "), both empty", x.begins(4, 4, at), at == 0 ? 1 : 0);
            }
            due.is("begins(0, 4, MAX)", x.begins(0, 4, MAX), 0);
            due.is("begins(0, 4, MIN)", x.begins(0, 4, MIN), 0);
        });
    }

    /** Of row in other, as of f, by every call that answers it. */
    private static void found(String row, String other, int f, int first, int last) {
        RowsOfSigns x = Rows.with(other, other, row);
        String told = " of " + row + " in " + other + ", as of " + f;
        due.is("first()" + told, x.first(0, 1, f), first);
        due.is("firstText()" + told, x.firstText(0, 1, f), first);
        due.is("last()" + told, x.last(0, 1, f), last);
        due.is("lastText()" + told, x.lastText(0, 1, f), last);
    }

    private static void firstAndLast() {
        due.test(TERMS, "THE FIRST of a row in another one, as of a number f, is the least PLACE at which it STANDS "
                + "there that is f or more", () -> {
            found("ab", "abcab", 0, 0, 0);
            found("ab", "abcab", 1, 3, 0);
            found("ab", "abcab", 3, 3, 3);
            found("ab", "abcab", 4, NONE, 3);
            found("abcab", "abcab", 0, 0, 0);
            found("abcab", "abcab", 1, NONE, 0);
            found("", "abcab", 2, 2, 2);
        });
        due.test(TERMS, "where f is more than how many SIGNS there are, f counts as that", () -> {
            found("", "abcab", 4, 4, 4);
            found("", "abcab", 5, 5, 5);
            found("", "abcab", 6, 5, 5);
            found("", "abcab", MAX, 5, 5);
            found("", "", 0, 0, 0);
            found("", "", 1, 0, 0);
            found("b", "abcab", 5, NONE, 4);
            found("b", "abcab", 6, NONE, 4);
        });
        due.test(TERMS, "THE LAST, as of f, is the greatest PLACE at which it STANDS there that is f or less", () -> {
            found("ab", "abcab", 2, 3, 0);
            found("ab", "abcab", 3, 3, 3);
            found("ab", "abcab", 5, NONE, 3);
            found("ab", "abcab", 0, 0, 0);
            found("bc", "abcab", 0, 1, NONE);
            found("bc", "abcab", 1, 1, 1);
            found("", "abcab", 0, 0, 0);
        });
        due.test(TERMS, "THE FIRST, THE LAST of a SIGN, as of f, is the least PLACE that is f or more, the greatest "
                + "that is f or less, at which it is", () -> {
            RowsOfSigns x = Rows.with("", "abca");
            int[] first = {0, 0, 3, 3, 3, NONE, NONE};
            int[] last = {NONE, 0, 0, 0, 3, 3, 3};
            for (int f = -1; f <= 5; f++) {
                due.is("firstSign(0, a, " + f + ")", x.firstSign(0, 'a', f), first[f + 1]);
                due.is("lastSign(0, a, " + f + ")", x.lastSign(0, 'a', f), last[f + 1]);
            }
        });
        due.test(TERMS, "(f may be below 0, or beyond the end.)", () -> {
            found("ab", "abcab", -1, 0, NONE);
            found("ab", "abcab", MIN, 0, NONE);
            found("", "abcab", -1, 0, NONE);
            found("", "abcab", MIN, 0, NONE);
            found("ab", "abcab", 6, NONE, 3);
            found("ab", "abcab", MAX, NONE, 3);
            RowsOfSigns x = Rows.with("", "abca");
            due.is("firstSign(0, a, MIN)", x.firstSign(0, 'a', MIN), 0);
            due.is("firstSign(0, a, MAX)", x.firstSign(0, 'a', MAX), NONE);
            due.is("lastSign(0, a, MIN)", x.lastSign(0, 'a', MIN), NONE);
            due.is("lastSign(0, a, MAX)", x.lastSign(0, 'a', MAX), 3);
        });
    }

    private static void ordered(String one, String other, int want) {
        RowsOfSigns x = Rows.with(one, one, other);
        Rows.build(x, 1, other);
        String told = " of " + Rows.shown(one) + " and " + Rows.shown(other);
        due.is("order(0, 1)" + told, x.order(0, 1), want);
        due.is("order(1, 0)" + told, x.order(1, 0), -want);
        due.is("ahead(0, 1)" + told, x.ahead(0, 1), Integer.signum(want));
        due.is("ahead(1, 0)" + told, x.ahead(1, 0), -Integer.signum(want));
    }

    private static void order() {
        due.test(TERMS, "The ORDER of two rows: at the first PLACE at which both have a SIGN, and not the same one, "
                + "the first one's SIGN less the other one's", () -> {
            ordered("a", "b", -1);
            ordered("abz", "acz", -1);
            ordered("az", "ba", -1);
            ordered("\u00ff", "\u0000", 255);
            ordered("\u0080", "\u007f", 1);
            ordered("b", "abcdef", 1);
            ordered("x".repeat(199) + "a", "x".repeat(199) + "c", -2);
        });
        due.test(TERMS, "if there is no such PLACE, how many SIGNS the first one has less how many the other one has",
                () -> {
            ordered("", "", 0);
            ordered("abc", "abc", 0);
            ordered("abc", "ab", 1);
            ordered("", "\u0000", -1);
            ordered("", "x".repeat(200), -200);
            ordered("x".repeat(200), "x".repeat(199), 1);
        });
    }

    private static void separators() {
        due.test(TERMS, "A separator of split() is one SIGN, but none of the twelve 36, 40, 41, 42, 43, 46, 63, 91, "
                + "92, 94, 123, 124", () -> {
            List<Integer> twelve = List.of(36, 40, 41, 42, 43, 46, 63, 91, 92, 94, 123, 124);
            for (int sign = -2; sign <= 257; sign++) {
                String text = "a" + (char) (sign & 255) + "b";
                RowsOfSigns x = Rows.with("", text);
                boolean refused = sign < 0 || sign > 255 || twelve.contains(sign);
                due.is("split(0, " + sign + ", -1)", x.split(0, sign, -1), refused ? OUTSIDE : 2 + ends(sign));
                due.is("parts() behind split(0, " + sign + ", -1)", x.parts(), refused ? 0 : 2 + ends(sign));
            }
        });
    }

    /** How many more parts there are where the separator is one of the two signs at the ends, too. */
    private static int ends(int sign) {
        return sign == 'a' || sign == 'b' ? 1 : 0;
    }

    private static void falls(String text, int limit, String parts) {
        RowsOfSigns x = Rows.with("", text);
        x.split(0, ',', limit);
        due.is("split(0, 44, " + limit + ") of " + text, Rows.parts(x), parts);
    }

    private static void limits() {
        due.test(TERMS, "The TEXT is parted at each PLACE at which that is, from the first on", () -> {
            falls("a,b,c", -1, "|a|b|c|");
            falls("a,b,c", MIN, "|a|b|c|");
            falls("a,b,c", 0, "|a|b|c|");
            falls("a,", -1, "|a||");
            falls(",a", -1, "||a|");
            RowsOfSigns x = Rows.with("", ",".repeat(200));
            due.is("split(0, 44, -1) of 200 separators", x.split(0, ',', -1), 201);
            due.is("split(0, 44, MIN) of 200 separators", x.split(0, ',', MIN), 201);
        });
        due.test(TERMS, "with a limit above 0 only at the first of these that are less than the limit in number "
                + "(one less than the limit at most)", () -> {
            falls("a,b,c", 1, "|a,b,c|");
            falls("a,b,c", 2, "|a|b,c|");
            falls("a,b,c", 3, "|a|b|c|");
            falls("a,b,c", 4, "|a|b|c|");
            falls("a,b,c", MAX, "|a|b|c|");
            falls(",,", 1, "|,,|");
            falls(",,", 2, "||,|");
            falls(",,", 3, "||||");
            falls(",,", 4, "||||");
            RowsOfSigns x = Rows.with("", ",".repeat(200));
            due.is("split(0, 44, 199) of 200 separators", x.split(0, ',', 199), 199);
            due.is("split(0, 44, 200) of 200 separators", x.split(0, ',', 200), 200);
            due.is("split(0, 44, 201) of 200 separators", x.split(0, ',', 201), 201);
            due.is("split(0, 44, 202) of 200 separators", x.split(0, ',', 202), 201);
            due.is("split(0, 44, MAX) of 200 separators", x.split(0, ',', MAX), 201);
        });
        due.test(TERMS, "PARTS are what lies ahead of the first such PLACE, between two, and behind the last one, in "
                + "order, empty ones too; the separators at which it is parted are in none", () -> {
            falls(",a,,bc,", -1, "||a||bc||");
            falls(",", -1, "|||");
            falls(",,,", -1, "|||||");
            falls("a,b,,c", 3, "|a|b|,c|");
            falls(",a", 0, "||a|");
        });
        due.test(TERMS, "If the limit is 0, empty PARTS at the end are dropped, one by one, till the last one is not "
                + "empty, or there is none", () -> {
            falls("a,", 0, "|a|");
            falls("a,,,", 0, "|a|");
            falls(",a,,", 0, "||a|");
            falls("a,,b,,", 0, "|a||b|");
            falls(",", 0, "|");
            falls(",,,", 0, "|");
            falls("a,,", -1, "|a|||");
            falls("a,,", 1, "|a,,|");
            falls("a,,", 3, "|a|||");
            RowsOfSigns x = Rows.with("", ",".repeat(200), ",".repeat(199) + "a", "a" + ",".repeat(199));
            due.is("split(0, 44, 0) of 200 separators", x.split(0, ',', 0), 0);
            due.is("split(1, 44, 0) of 199 separators and a", x.split(1, ',', 0), 200);
            due.is("split(2, 44, 0) of a and 199 separators", x.split(2, ',', 0), 1);
        });
        due.test(TERMS, "But a TEXT without that separator is one PART, also if it is empty", () -> {
            for (int limit : new int[] {MIN, -1, 0, 1, 2, MAX}) {
                falls("", limit, "||");
                falls("abc", limit, "|abc|");
                falls(";", limit, "|;|");
            }
        });
    }

    private static void parts() {
        due.test(TERMS, "PARTS are numbered from 0", () -> {
            RowsOfSigns x = Rows.with("", "a,b");
            x.split(0, ',', 0);
            due.is("partTo(-1, 1)", x.partTo(-1, 1), NONE);
            due.is("partTo(0, 1)", x.partTo(0, 1), 1);
            due.is("part 0", Rows.text(x, 1), "a");
            due.is("partTo(1, 1)", x.partTo(1, 1), 1);
            due.is("part 1", Rows.text(x, 1), "b");
            due.is("partTo(2, 1)", x.partTo(2, 1), NONE);
        });
        due.test(TERMS, "They stay as they are, whatever becomes of the TEXT, till split() is told again", () -> {
            RowsOfSigns x = Rows.with("", "a,bc", "d,e,f");
            x.split(0, ',', 0);
            x.swap(0, 'b', 'z', 0);
            due.is("the text became another one", Rows.parts(x), "|a|bc|");
            x.forget(0);
            due.is("the text is missing", Rows.parts(x), "|a|bc|");
            due.is("split(0, 44, 0), refused", x.split(0, ',', 0), MISSING);
            due.is("split(1, 46, 0), refused", x.split(1, '.', 0), OUTSIDE);
            due.is("split(8, 44, 0), refused", x.split(8, ',', 0), UNKNOWN);
            due.is("split() was refused", Rows.parts(x), "|a|bc|");
            due.is("split(1, 44, 0)", x.split(1, ',', 0), 3);
            due.is("split() was told again", Rows.parts(x), "|d|e|f|");
            due.is("split(1, 59, 0)", x.split(1, ';', 0), 1);
            due.is("split() was told again", Rows.parts(x), "|d,e,f|");
        });
        due.test(TERMS, "at first there are none", () -> {
            RowsOfSigns x = new RowsOfSigns();
            due.is("parts()", x.parts(), 0);
            due.is("partTo(0, 0)", x.partTo(0, 0), NONE);
            due.is("joined(44, 0)", x.joined(',', 0), 0);
        });
    }

    private static void cutters() {
        due.test(TERMS, "There are CUTTERS 0 and 1, MISSING at first", () -> {
            RowsOfSigns x = Rows.with("", "a,b", ",");
            due.is("left(-1)", x.left(-1), UNKNOWN);
            due.is("left(0)", x.left(0), MISSING);
            due.is("left(1)", x.left(1), MISSING);
            due.is("left(2)", x.left(2), UNKNOWN);
            due.is("cutter(2, 0, 1, false)", x.cutter(2, 0, 1, false), UNKNOWN);
            due.is("cutter(1, 0, 1, true)", x.cutter(1, 0, 1, true), 3);
            due.is("left(0), the other one", x.left(0), MISSING);
            due.is("cutter(0, 0, 1, false)", x.cutter(0, 0, 1, false), 2);
            due.is("left(1), each has its own", x.left(1), 3);
        });
        due.test(TERMS, "A CUTTER has a row of SIGNS (the TEXT as it was when the CUTTER was made), its separators "
                + "(the SIGNS of another TEXT as it was then, perhaps none), whether it GIVES separators, and the "
                + "PLACE where it is, 0 at first", () -> {
            RowsOfSigns x = Rows.with("", "a,b;c", ",", "");
            x.cutter(0, 0, 1, false);
            x.cutter(1, 0, 1, true);
            x.forget(0);
            x.swap(1, ',', 'b', 1);
            due.is("the texts became others", Rows.tokens(x, 0), "|a|b;c|");
            due.is("the texts became others, given", Rows.tokens(x, 1), "|a|,|b;c|");
            RowsOfSigns y = Rows.with("", "a,b;c", ",", "");
            due.is("cutter(0, 0, 2, false), no separators", y.cutter(0, 0, 2, false), 1);
            due.is("its tokens", Rows.tokens(y, 0), "|a,b;c|");
            due.is("cutter(0, 0, 2, true), no separators", y.cutter(0, 0, 2, true), 1);
            due.is("its tokens", Rows.tokens(y, 0), "|a,b;c|");
            due.is("cutter(0, 0, 1, false), from 0 again", y.cutter(0, 0, 1, false), 2);
            due.is("its tokens", Rows.tokens(y, 0), "|a|b;c|");
            due.is("cutter(0, 1, 1, true) of one text", y.cutter(0, 1, 1, true), 1);
        });
    }

    private static void tokens(String text, String separators, boolean gives, String tokens) {
        RowsOfSigns x = Rows.with("", text, separators);
        x.cutter(0, 0, 1, gives);
        String told = "the tokens of " + text + " by " + separators + (gives ? ", given" : "");
        due.is(told, Rows.tokens(x, 0), tokens);
    }

    private static void tokens() {
        due.test(TERMS, "Its next token, if it does not GIVE them: separators from its PLACE on are passed by; the "
                + "token are the SIGNS from there on up to the next separator, or to the end; there is none, if the "
                + "end was come to", () -> {
            tokens("a", ",", false, "|a|");
            tokens(",a", ",", false, "|a|");
            tokens("a,", ",", false, "|a|");
            tokens(",,ab,,c,,", ",", false, "|ab|c|");
            tokens(",;a;,b", ",;", false, "|a|b|");
            tokens(",", ",", false, "|");
            tokens(",,", ",", false, "|");
            tokens("", ",", false, "|");
        });
        due.test(TERMS, "If it GIVES them: the SIGN at its PLACE alone, if that is a separator; else the SIGNS from "
                + "there on up to the next separator, or to the end; none at the end", () -> {
            tokens("a", ",", true, "|a|");
            tokens(",a", ",", true, "|,|a|");
            tokens("a,", ",", true, "|a|,|");
            tokens(",,ab,;c", ",;", true, "|,|,|ab|,|;|c|");
            tokens(",", ",", true, "|,|");
            tokens("", ",", true, "|");
        });
        due.test(TERMS, "When a token is taken the PLACE is right behind it; to ask whether there is one, or how many, "
                + "leaves it where it is", () -> {
            RowsOfSigns x = Rows.with("", ",,a,,b", ",", ";");
            x.cutter(0, 0, 1, false);
            for (int i = 0; i < 3; i++) {
                due.is("more(0)", x.more(0), 1);
                due.is("left(0)", x.left(0), 2);
            }
            due.is("nextBy(0, 2, 3), from the first place on", x.nextBy(0, 2, 3), 6);
            due.is("its token", Rows.text(x, 3), ",,a,,b");
            x.cutter(0, 0, 1, false);
            due.is("next(0, 3)", x.next(0, 3), 1);
            due.is("more(0)", x.more(0), 1);
            due.is("left(0)", x.left(0), 1);
            due.is("nextBy(0, 2, 3), from right behind it", x.nextBy(0, 2, 3), 3);
            due.is("its token", Rows.text(x, 3), ",,b");
        });
        due.test(TERMS, "A CUTTER of which a token is wanted, and there is none, is MISSING from then on", () -> {
            RowsOfSigns x = Rows.with("", "a", ",");
            x.cutter(0, 0, 1, false);
            due.is("next(0, 2), the last one", x.next(0, 2), 1);
            due.is("left(0)", x.left(0), 0);
            due.is("more(0)", x.more(0), 0);
            due.is("next(0, 2), there is none", x.next(0, 2), ENDED);
            due.is("left(0)", x.left(0), MISSING);
            due.is("more(0)", x.more(0), MISSING);
            due.is("next(0, 2)", x.next(0, 2), MISSING);
            due.is("nextBy(0, 1, 2)", x.nextBy(0, 1, 2), MISSING);
            x.cutter(0, 0, 1, true);
            x.next(0, 2);
            due.is("nextBy(0, 1, 2), there is none", x.nextBy(0, 1, 2), ENDED);
            due.is("left(0)", x.left(0), MISSING);
        });
    }

    private static void constants() {
        due.test(TERMS, "The constants: `NONE = -1`: There is none", () -> due.is("NONE", RowsOfSigns.NONE, -1));
        due.test(TERMS, "`UNKNOWN = -1001, OUTSIDE = -1002, MISSING = -1003, COUNT = -1004, PLACE = -1005, "
                + "ENDED = -1006, FULL = -1007`: The refusals", () -> {
            due.is("UNKNOWN", RowsOfSigns.UNKNOWN, -1001);
            due.is("OUTSIDE", RowsOfSigns.OUTSIDE, -1002);
            due.is("MISSING", RowsOfSigns.MISSING, -1003);
            due.is("COUNT", RowsOfSigns.COUNT, -1004);
            due.is("PLACE", RowsOfSigns.PLACE, -1005);
            due.is("ENDED", RowsOfSigns.ENDED, -1006);
            due.is("FULL", RowsOfSigns.FULL, -1007);
        });
    }
}
