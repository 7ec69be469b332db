/** Promises 1 to 21: a new object, and what is done to builders. */
public final class BuilderTest {
    private static final Due due = new Due();
    private static final int MIN = Integer.MIN_VALUE;
    private static final int MAX = Integer.MAX_VALUE;
    private static final int UNKNOWN = -1001, OUTSIDE = -1002, MISSING = -1003, COUNT = -1004, PLACE = -1005, FULL = -1007;

    public static void main(String[] args) {
        newObject();
        sign();
        signs();
        text();
        part();
        number();
        insert();
        insertPart();
        insertSign();
        delete();
        deleteAt();
        replace();
        reverse();
        put();
        length();
        at();
        size();
        first();
        last();
        take();
        ahead();
        objectsAreApart();
        due.end();
    }

    private static RowsOfSigns with(String builder0, String text0) {
        RowsOfSigns x = new RowsOfSigns();
        Due.build(x, 0, builder0);
        Due.write(x, 0, text0);
        return x;
    }

    /** Builder 0 has as many signs as are told, text 0 is ab, text 1 is empty, text 2 is missing. */
    private static RowsOfSigns near(int signs) {
        RowsOfSigns x = with("a".repeat(signs), "ab");
        Due.write(x, 1, "");
        return x;
    }

    private static void newObject() {
        RowsOfSigns x = new RowsOfSigns();
        for (int b = 0; b < 4; b++) {
            due.is("1 size(" + b + ")", x.size(b), 0);
        }
        for (int t = 0; t < 8; t++) {
            due.is("1 textSize(" + t + ")", x.textSize(t), -1);
        }
        for (int c = 0; c < 2; c++) {
            due.is("1 left(" + c + ")", x.left(c), MISSING);
        }
        due.is("1 parts()", x.parts(), 0);
    }

    private static void sign() {
        RowsOfSigns x = new RowsOfSigns();
        due.is("2 sign(0, 0)", x.sign(0, 0), 1);
        due.is("2 sign(0, 255)", x.sign(0, 255), 2);
        due.is("2 sign(3, 97)", x.sign(3, 97), 1);
        due.is("2 sign", Due.builder(x, 0), "\u0000\u00ff");
        due.refused(x, "2 sign(-1, 1)", UNKNOWN, () -> x.sign(-1, 1));
        due.refused(x, "2 sign(4, -1)", UNKNOWN, () -> x.sign(4, -1));
        due.refused(x, "2 sign(0, -1)", OUTSIDE, () -> x.sign(0, -1));
        due.refused(x, "2 sign(0, 256)", OUTSIDE, () -> x.sign(0, 256));
        RowsOfSigns y = near(199);
        due.is("2 sign to 200", y.sign(0, 7), 200);
        due.refused(y, "2 sign beyond 200", FULL, () -> y.sign(0, 7));
        due.refused(y, "2 no sign beyond 200", OUTSIDE, () -> y.sign(0, 256));
        due.refused(y, "2 sign(MIN, 1)", UNKNOWN, () -> y.sign(MIN, 1));
    }

    private static void signs() {
        RowsOfSigns x = new RowsOfSigns();
        due.is("3 signs(0, 3, abc)", x.signs(0, 3, 0x5a616263L), 3);
        due.is("3 signs(0, 0, abc)", x.signs(0, 0, 0x616263L), 3);
        due.is("3 signs", Due.builder(x, 0), "abc");
        due.is("3 signs(0, 2, xy)", x.signs(0, 2, 0x7879L), 5);
        due.is("3 signs behind signs", Due.builder(x, 0), "abcxy");
        due.is("3 signs(1, 8, -2)", x.signs(1, 8, -2L), 8);
        due.is("3 signs of -2", Due.builder(x, 1), "\u00ff".repeat(7) + "\u00fe");
        due.is("3 signs(2, 8, ..)", x.signs(2, 8, 0x4142434445464748L), 8);
        due.is("3 signs of eight", Due.builder(x, 2), "ABCDEFGH");
        due.refused(x, "3 signs(0, 9, 0)", OUTSIDE, () -> x.signs(0, 9, 0));
        due.refused(x, "3 signs(0, -1, 0)", OUTSIDE, () -> x.signs(0, -1, 0));
        due.refused(x, "3 signs(4, 9, 0)", UNKNOWN, () -> x.signs(4, 9, 0));
        due.refused(x, "3 signs(-1, 1, 0)", UNKNOWN, () -> x.signs(-1, 1, 0));
        RowsOfSigns y = near(198);
        due.refused(y, "3 signs beyond 200", FULL, () -> y.signs(0, 3, 0));
        due.is("3 signs to 200", y.signs(0, 2, 0), 200);
        due.is("3 no signs at 200", y.signs(0, 0, 0), 200);
        due.refused(y, "3 nine signs at 200", OUTSIDE, () -> y.signs(0, 9, 0));
    }

    private static void text() {
        RowsOfSigns x = with("xy", "abc");
        due.is("4 text(0, 0)", x.text(0, 0), 5);
        due.is("4 text(0, 1), missing", x.text(0, 1), 9);
        due.is("4 text", Due.builder(x, 0), "xyabcnull");
        due.is("4 the text stays", Due.text(x, 0), "abc");
        due.is("4 the missing text stays", Due.text(x, 1), "(missing)");
        due.refused(x, "4 text(4, 0)", UNKNOWN, () -> x.text(4, 0));
        due.refused(x, "4 text(0, 8)", UNKNOWN, () -> x.text(0, 8));
        due.refused(x, "4 text(0, -1)", UNKNOWN, () -> x.text(0, -1));
        RowsOfSigns y = near(197);
        due.refused(y, "4 the four beyond 200", FULL, () -> y.text(0, 2));
        due.is("4 text to 199", y.text(0, 0), 199);
        due.refused(y, "4 text beyond 200", FULL, () -> y.text(0, 0));
        due.is("4 an empty text", y.text(0, 1), 199);
        RowsOfSigns z = near(196);
        due.is("4 the four to 200", z.text(0, 2), 200);
        due.refused(z, "4 text(0, 8) at 200", UNKNOWN, () -> z.text(0, 8));
    }

    private static void part() {
        RowsOfSigns x = with("-", "abcde");
        due.is("5 part(0, 0, 1, 3)", x.part(0, 0, 1, 3), 3);
        due.is("5 part(0, 0, 5, 5)", x.part(0, 0, 5, 5), 3);
        due.is("5 part(0, 0, 0, 5)", x.part(0, 0, 0, 5), 8);
        due.is("5 part(0, 1, 1, 4), missing", x.part(0, 1, 1, 4), 11);
        due.is("5 part", Due.builder(x, 0), "-bcabcdeull");
        due.refused(x, "5 part(0, 0, -1, 3)", PLACE, () -> x.part(0, 0, -1, 3));
        due.refused(x, "5 part(0, 0, 0, 6)", PLACE, () -> x.part(0, 0, 0, 6));
        due.refused(x, "5 part(0, 0, 3, 2)", PLACE, () -> x.part(0, 0, 3, 2));
        due.refused(x, "5 part(0, 1, 0, 5), missing", PLACE, () -> x.part(0, 1, 0, 5));
        due.refused(x, "5 part(0, 0, MIN, MAX)", PLACE, () -> x.part(0, 0, MIN, MAX));
        due.refused(x, "5 part(0, 0, MAX, MIN)", PLACE, () -> x.part(0, 0, MAX, MIN));
        due.refused(x, "5 part(4, 0, -1, 3)", UNKNOWN, () -> x.part(4, 0, -1, 3));
        due.refused(x, "5 part(0, 8, -1, 3)", UNKNOWN, () -> x.part(0, 8, -1, 3));
        RowsOfSigns y = near(199);
        due.refused(y, "5 part beyond 200", FULL, () -> y.part(0, 0, 0, 2));
        due.refused(y, "5 part out of place beyond 200", PLACE, () -> y.part(0, 0, 0, 3));
        due.is("5 part to 200", y.part(0, 0, 1, 2), 200);
        due.is("5 an empty part at 200", y.part(0, 0, 2, 2), 200);
    }

    private static void number() {
        RowsOfSigns x = new RowsOfSigns();
        due.is("6 number(0, 0)", x.number(0, 0), 1);
        due.is("6 number(0, -7)", x.number(0, -7), 3);
        due.is("6 number(0, 10200)", x.number(0, 10200), 8);
        due.is("6 number", Due.builder(x, 0), "0-710200");
        due.is("6 number(1, lowest)", x.number(1, Long.MIN_VALUE), 20);
        due.is("6 lowest", Due.builder(x, 1), "-9223372036854775808");
        due.is("6 number(2, highest)", x.number(2, Long.MAX_VALUE), 19);
        due.is("6 highest", Due.builder(x, 2), "9223372036854775807");
        due.refused(x, "6 number(4, 0)", UNKNOWN, () -> x.number(4, 0));
        due.refused(x, "6 number(-1, 0)", UNKNOWN, () -> x.number(-1, 0));
        RowsOfSigns y = near(198);
        due.refused(y, "6 number beyond 200", FULL, () -> y.number(0, -10));
        due.is("6 number to 200", y.number(0, -1), 200);
        due.refused(y, "6 number at 200", FULL, () -> y.number(0, 0));
    }

    private static void insert() {
        RowsOfSigns x = with("xyz", "ab");
        due.is("7 insert(0, 1, 0)", x.insert(0, 1, 0), 5);
        due.is("7 insert(0, 0, 0)", x.insert(0, 0, 0), 7);
        due.is("7 insert(0, 7, 0)", x.insert(0, 7, 0), 9);
        due.is("7 insert(0, 2, 1), missing", x.insert(0, 2, 1), 13);
        due.is("7 insert", Due.builder(x, 0), "abnullxabyzab");
        due.refused(x, "7 insert(0, 14, 0)", PLACE, () -> x.insert(0, 14, 0));
        due.refused(x, "7 insert(0, -1, 0)", PLACE, () -> x.insert(0, -1, 0));
        due.refused(x, "7 insert(0, MAX, 0)", PLACE, () -> x.insert(0, MAX, 0));
        due.refused(x, "7 insert(4, -1, 0)", UNKNOWN, () -> x.insert(4, -1, 0));
        due.refused(x, "7 insert(0, -1, 8)", UNKNOWN, () -> x.insert(0, -1, 8));
        RowsOfSigns y = near(199);
        due.refused(y, "7 insert beyond 200", FULL, () -> y.insert(0, 0, 0));
        due.refused(y, "7 insert of the four beyond 200", FULL, () -> y.insert(0, 199, 2));
        due.refused(y, "7 insert out of place beyond 200", PLACE, () -> y.insert(0, 200, 0));
        due.is("7 insert of an empty text", y.insert(0, 199, 1), 199);
        RowsOfSigns z = near(198);
        due.is("7 insert to 200", z.insert(0, 0, 0), 200);
    }

    private static void insertPart() {
        RowsOfSigns x = with("xyz", "abcd");
        due.is("8 insertPart(0, 1, 0, 1, 3)", x.insertPart(0, 1, 0, 1, 3), 5);
        due.is("8 insertPart(0, 5, 0, 3, 4)", x.insertPart(0, 5, 0, 3, 4), 6);
        due.is("8 insertPart(0, 2, 0, 4, 4)", x.insertPart(0, 2, 0, 4, 4), 6);
        due.is("8 insertPart(0, 0, 1, 1, 4), missing", x.insertPart(0, 0, 1, 1, 4), 9);
        due.is("8 insertPart", Due.builder(x, 0), "ullxbcyzd");
        due.refused(x, "8 insertPart(0, 10, 0, 0, 1)", PLACE, () -> x.insertPart(0, 10, 0, 0, 1));
        due.refused(x, "8 insertPart(0, -1, 0, 0, 1)", PLACE, () -> x.insertPart(0, -1, 0, 0, 1));
        due.refused(x, "8 insertPart(0, 0, 0, -1, 1)", PLACE, () -> x.insertPart(0, 0, 0, -1, 1));
        due.refused(x, "8 insertPart(0, 0, 0, 0, 5)", PLACE, () -> x.insertPart(0, 0, 0, 0, 5));
        due.refused(x, "8 insertPart(0, 0, 0, 2, 1)", PLACE, () -> x.insertPart(0, 0, 0, 2, 1));
        due.refused(x, "8 insertPart(0, 0, 1, 0, 5), missing", PLACE, () -> x.insertPart(0, 0, 1, 0, 5));
        due.refused(x, "8 insertPart(4, 10, 0, 0, 1)", UNKNOWN, () -> x.insertPart(4, 10, 0, 0, 1));
        due.refused(x, "8 insertPart(0, 10, -1, 0, 1)", UNKNOWN, () -> x.insertPart(0, 10, -1, 0, 1));
        RowsOfSigns y = near(199);
        due.refused(y, "8 insertPart beyond 200", FULL, () -> y.insertPart(0, 0, 0, 0, 2));
        due.refused(y, "8 insertPart out of place beyond 200", PLACE, () -> y.insertPart(0, 0, 0, 0, 3));
        due.refused(y, "8 insertPart at no place beyond 200", PLACE, () -> y.insertPart(0, 200, 0, 0, 2));
        due.is("8 insertPart to 200", y.insertPart(0, 0, 0, 1, 2), 200);
        due.is("8 its sign", x.at(0, 0), 'u');
    }

    private static void insertSign() {
        RowsOfSigns x = with("xy", "");
        due.is("9 insertSign(0, 1, 255)", x.insertSign(0, 1, 255), 3);
        due.is("9 insertSign(0, 3, 0)", x.insertSign(0, 3, 0), 4);
        due.is("9 insertSign(0, 0, 97)", x.insertSign(0, 0, 97), 5);
        due.is("9 insertSign", Due.builder(x, 0), "ax\u00ffy\u0000");
        due.refused(x, "9 insertSign(0, 6, 97)", PLACE, () -> x.insertSign(0, 6, 97));
        due.refused(x, "9 insertSign(0, -1, 97)", PLACE, () -> x.insertSign(0, -1, 97));
        due.refused(x, "9 insertSign(0, -1, 256)", OUTSIDE, () -> x.insertSign(0, -1, 256));
        due.refused(x, "9 insertSign(0, 0, -1)", OUTSIDE, () -> x.insertSign(0, 0, -1));
        due.refused(x, "9 insertSign(-1, 0, -1)", UNKNOWN, () -> x.insertSign(-1, 0, -1));
        due.refused(x, "9 insertSign(4, 9, 1)", UNKNOWN, () -> x.insertSign(4, 9, 1));
        RowsOfSigns y = near(200);
        due.refused(y, "9 insertSign at 200", FULL, () -> y.insertSign(0, 0, 97));
        due.refused(y, "9 insertSign at no place at 200", PLACE, () -> y.insertSign(0, 201, 97));
    }

    private static void delete() {
        RowsOfSigns x = with("abcdefgh", "");
        due.is("10 delete(0, 1, 3)", x.delete(0, 1, 3), 6);
        due.is("10 delete", Due.builder(x, 0), "adefgh");
        due.is("10 delete(0, 2, 2)", x.delete(0, 2, 2), 6);
        due.is("10 delete(0, 6, 6)", x.delete(0, 6, 6), 6);
        due.is("10 delete(0, 6, MAX)", x.delete(0, 6, MAX), 6);
        due.is("10 delete(0, 4, 99)", x.delete(0, 4, 99), 4);
        due.is("10 delete to the end", Due.builder(x, 0), "adef");
        due.refused(x, "10 delete(0, 5, 9)", PLACE, () -> x.delete(0, 5, 9));
        due.refused(x, "10 delete(0, -1, 2)", PLACE, () -> x.delete(0, -1, 2));
        due.refused(x, "10 delete(0, 2, 1)", PLACE, () -> x.delete(0, 2, 1));
        due.refused(x, "10 delete(0, 0, -1)", PLACE, () -> x.delete(0, 0, -1));
        due.refused(x, "10 delete(0, 9, 8)", PLACE, () -> x.delete(0, 9, 8));
        due.refused(x, "10 delete(0, MIN, MAX)", PLACE, () -> x.delete(0, MIN, MAX));
        due.refused(x, "10 delete(0, MAX, MAX)", PLACE, () -> x.delete(0, MAX, MAX));
        due.refused(x, "10 delete(4, -1, 2)", UNKNOWN, () -> x.delete(4, -1, 2));
        due.is("10 delete(0, 0, 4)", x.delete(0, 0, 4), 0);
        due.is("10 delete(1, 0, 1), empty", x.delete(1, 0, 1), 0);
    }

    private static void deleteAt() {
        RowsOfSigns x = with("abcd", "");
        due.is("11 deleteAt(0, 1)", x.deleteAt(0, 1), 3);
        due.is("11 deleteAt(0, 2)", x.deleteAt(0, 2), 2);
        due.is("11 deleteAt", Due.builder(x, 0), "ac");
        due.refused(x, "11 deleteAt(0, 2), none", PLACE, () -> x.deleteAt(0, 2));
        due.refused(x, "11 deleteAt(0, -1)", PLACE, () -> x.deleteAt(0, -1));
        due.refused(x, "11 deleteAt(0, MAX)", PLACE, () -> x.deleteAt(0, MAX));
        due.refused(x, "11 deleteAt(1, 0)", PLACE, () -> x.deleteAt(1, 0));
        due.refused(x, "11 deleteAt(4, -1)", UNKNOWN, () -> x.deleteAt(4, -1));
    }

    private static void replace() {
        RowsOfSigns x = with("abcdef", "XY");
        Due.write(x, 1, "");
        due.is("12 replace(0, 1, 4, 0)", x.replace(0, 1, 4, 0), 5);
        due.is("12 replace", Due.builder(x, 0), "aXYef");
        due.is("12 replace(0, 2, 2, 0)", x.replace(0, 2, 2, 0), 7);
        due.is("12 replace of none", Due.builder(x, 0), "aXXYYef");
        due.is("12 replace(0, 6, 99, 0)", x.replace(0, 6, 99, 0), 8);
        due.is("12 replace(0, 8, 9, 0)", x.replace(0, 8, 9, 0), 10);
        due.is("12 replace at the end", Due.builder(x, 0), "aXXYYeXYXY");
        due.is("12 replace(0, 0, 9, 1)", x.replace(0, 0, 9, 1), 1);
        due.is("12 replace by nothing", Due.builder(x, 0), "Y");
        due.refused(x, "12 replace(0, 2, 2, 0)", PLACE, () -> x.replace(0, 2, 2, 0));
        due.refused(x, "12 replace(0, -1, 1, 0)", PLACE, () -> x.replace(0, -1, 1, 0));
        due.refused(x, "12 replace(0, 1, 0, 0)", PLACE, () -> x.replace(0, 1, 0, 0));
        due.refused(x, "12 replace(0, 0, -1, 0)", PLACE, () -> x.replace(0, 0, -1, 0));
        due.refused(x, "12 replace(0, 0, 1, 2), missing", MISSING, () -> x.replace(0, 0, 1, 2));
        due.refused(x, "12 replace(0, -1, 1, 2), missing", MISSING, () -> x.replace(0, -1, 1, 2));
        due.refused(x, "12 replace(4, 0, 1, 2)", UNKNOWN, () -> x.replace(4, 0, 1, 2));
        due.refused(x, "12 replace(0, 0, 1, 8)", UNKNOWN, () -> x.replace(0, 0, 1, 8));
        RowsOfSigns y = near(200);
        due.refused(y, "12 replace beyond 200", FULL, () -> y.replace(0, 3, 4, 0));
        due.refused(y, "12 replace at no place beyond 200", PLACE, () -> y.replace(0, 201, 300, 0));
        due.is("12 replace at 200", y.replace(0, 3, 5, 0), 200);
        due.is("12 replace at 200, its end", y.replace(0, 198, 300, 0), 200);
    }

    private static void reverse() {
        RowsOfSigns x = with("abcd", "");
        due.is("13 reverse(0)", x.reverse(0), 4);
        due.is("13 reverse of four", Due.builder(x, 0), "dcba");
        x.deleteAt(0, 0);
        due.is("13 reverse(0) of three", x.reverse(0), 3);
        due.is("13 reverse of three", Due.builder(x, 0), "abc");
        x.reverse(0);
        x.reverse(0);
        due.is("13 reverse twice", Due.builder(x, 0), "abc");
        due.is("13 reverse(1), empty", x.reverse(1), 0);
        due.refused(x, "13 reverse(4)", UNKNOWN, () -> x.reverse(4));
        due.refused(x, "13 reverse(-1)", UNKNOWN, () -> x.reverse(-1));
    }

    private static void put() {
        RowsOfSigns x = with("abc", "");
        due.is("14 put(0, 0, 255)", x.put(0, 0, 255), 'a');
        due.is("14 put(0, 2, 0)", x.put(0, 2, 0), 'c');
        due.is("14 put(0, 0, 120)", x.put(0, 0, 120), 255);
        due.is("14 put", Due.builder(x, 0), "xb\u0000");
        due.refused(x, "14 put(0, 3, 1)", PLACE, () -> x.put(0, 3, 1));
        due.refused(x, "14 put(0, -1, 1)", PLACE, () -> x.put(0, -1, 1));
        due.refused(x, "14 put(0, -1, 256)", OUTSIDE, () -> x.put(0, -1, 256));
        due.refused(x, "14 put(0, 0, -1)", OUTSIDE, () -> x.put(0, 0, -1));
        due.refused(x, "14 put(4, 0, -1)", UNKNOWN, () -> x.put(4, 0, -1));
    }

    private static void length() {
        RowsOfSigns x = with("abcd", "");
        due.is("15 length(0, 2)", x.length(0, 2), 4);
        due.is("15 length, less", Due.builder(x, 0), "ab");
        due.is("15 length(0, 4)", x.length(0, 4), 2);
        due.is("15 length, more", Due.builder(x, 0), "ab\u0000\u0000");
        due.is("15 length(0, 4) again", x.length(0, 4), 4);
        due.is("15 length(0, 0)", x.length(0, 0), 4);
        due.is("15 length(0, 200)", x.length(0, 200), 0);
        due.is("15 size(0)", x.size(0), 200);
        due.refused(x, "15 length(0, 201)", FULL, () -> x.length(0, 201));
        due.refused(x, "15 length(0, MAX)", FULL, () -> x.length(0, MAX));
        due.refused(x, "15 length(0, -1)", COUNT, () -> x.length(0, -1));
        due.refused(x, "15 length(0, MIN)", COUNT, () -> x.length(0, MIN));
        due.refused(x, "15 length(4, -1)", UNKNOWN, () -> x.length(4, -1));
        due.refused(x, "15 length(-1, 201)", UNKNOWN, () -> x.length(-1, 201));
    }

    private static void at() {
        RowsOfSigns x = with("ab\u00ff", "");
        due.is("16 at(0, 0)", x.at(0, 0), 'a');
        due.is("16 at(0, 2)", x.at(0, 2), 255);
        due.refused(x, "16 at(0, 3)", PLACE, () -> x.at(0, 3));
        due.refused(x, "16 at(0, -1)", PLACE, () -> x.at(0, -1));
        due.refused(x, "16 at(1, 0), empty", PLACE, () -> x.at(1, 0));
        due.refused(x, "16 at(4, -1)", UNKNOWN, () -> x.at(4, -1));
        due.refused(x, "16 at(-1, 0)", UNKNOWN, () -> x.at(-1, 0));
        x.length(0, 1);
        due.refused(x, "16 at(0, 1), dropped", PLACE, () -> x.at(0, 1));
    }

    private static void size() {
        RowsOfSigns x = with("abc", "");
        due.is("17 size(0)", x.size(0), 3);
        due.is("17 size(1)", x.size(1), 0);
        due.refused(x, "17 size(4)", UNKNOWN, () -> x.size(4));
        due.refused(x, "17 size(-1)", UNKNOWN, () -> x.size(-1));
    }

    private static void first() {
        RowsOfSigns x = with("ababab", "ab");
        Due.write(x, 1, "");
        Due.write(x, 2, "abababa");
        Due.write(x, 3, "bb");
        due.is("18 first(0, 0, 0)", x.first(0, 0, 0), 0);
        due.is("18 first(0, 0, 1)", x.first(0, 0, 1), 2);
        due.is("18 first(0, 0, 4)", x.first(0, 0, 4), 4);
        due.is("18 first(0, 0, 5)", x.first(0, 0, 5), -1);
        due.is("18 first(0, 0, MIN)", x.first(0, 0, MIN), 0);
        due.is("18 first(0, 0, MAX)", x.first(0, 0, MAX), -1);
        due.is("18 first(0, 1, 3), empty", x.first(0, 1, 3), 3);
        due.is("18 first(0, 1, -3), empty", x.first(0, 1, -3), 0);
        due.is("18 first(0, 1, 6), empty", x.first(0, 1, 6), 6);
        due.is("18 first(0, 1, 99), empty", x.first(0, 1, 99), 6);
        due.is("18 first(1, 1, 9), both empty", x.first(1, 1, 9), 0);
        due.is("18 first(0, 2, 0), longer", x.first(0, 2, 0), -1);
        due.is("18 first(0, 3, 0), not there", x.first(0, 3, 0), -1);
        due.refused(x, "18 first(0, 4, 0), missing", MISSING, () -> x.first(0, 4, 0));
        due.refused(x, "18 first(4, 4, 0)", UNKNOWN, () -> x.first(4, 4, 0));
        due.refused(x, "18 first(0, 8, 0)", UNKNOWN, () -> x.first(0, 8, 0));
    }

    private static void last() {
        RowsOfSigns x = with("ababab", "ab");
        Due.write(x, 1, "");
        Due.write(x, 2, "abababa");
        due.is("19 last(0, 0, 6)", x.last(0, 0, 6), 4);
        due.is("19 last(0, 0, 4)", x.last(0, 0, 4), 4);
        due.is("19 last(0, 0, 3)", x.last(0, 0, 3), 2);
        due.is("19 last(0, 0, 0)", x.last(0, 0, 0), 0);
        due.is("19 last(0, 0, -1)", x.last(0, 0, -1), -1);
        due.is("19 last(0, 0, MIN)", x.last(0, 0, MIN), -1);
        due.is("19 last(0, 0, MAX)", x.last(0, 0, MAX), 4);
        due.is("19 last(0, 1, 99), empty", x.last(0, 1, 99), 6);
        due.is("19 last(0, 1, 3), empty", x.last(0, 1, 3), 3);
        due.is("19 last(0, 1, -1), empty", x.last(0, 1, -1), -1);
        due.is("19 last(0, 2, 9), longer", x.last(0, 2, 9), -1);
        due.refused(x, "19 last(0, 4, 0), missing", MISSING, () -> x.last(0, 4, 0));
        due.refused(x, "19 last(-1, 4, 0)", UNKNOWN, () -> x.last(-1, 4, 0));
        due.refused(x, "19 last(0, -1, 0)", UNKNOWN, () -> x.last(0, -1, 0));
    }

    private static void take() {
        RowsOfSigns x = with("abcdef", "old");
        due.is("20 take(0, 1, 4, 0)", x.take(0, 1, 4, 0), 3);
        due.is("20 take", Due.text(x, 0), "bcd");
        due.is("20 the builder stays", Due.builder(x, 0), "abcdef");
        due.is("20 take(0, 6, 6, 7)", x.take(0, 6, 6, 7), 0);
        due.is("20 take, empty", Due.text(x, 7), "");
        x.put(0, 1, 'X');
        due.is("20 the text stays", Due.text(x, 0), "bcd");
        due.refused(x, "20 take(0, 0, 7, 0)", PLACE, () -> x.take(0, 0, 7, 0));
        due.refused(x, "20 take(0, -1, 3, 0)", PLACE, () -> x.take(0, -1, 3, 0));
        due.refused(x, "20 take(0, 3, 2, 1)", PLACE, () -> x.take(0, 3, 2, 1));
        due.is("20 missing still", x.textSize(1), -1);
        due.refused(x, "20 take(4, -1, 3, 0)", UNKNOWN, () -> x.take(4, -1, 3, 0));
        due.refused(x, "20 take(0, -1, 3, 8)", UNKNOWN, () -> x.take(0, -1, 3, 8));
        due.is("20 take(0, 0, 6, 0)", x.take(0, 0, 6, 0), 6);
    }

    private static void ahead() {
        RowsOfSigns x = new RowsOfSigns();
        Due.build(x, 0, "abc");
        Due.build(x, 1, "abz");
        Due.build(x, 2, "ab");
        due.is("21 ahead(0, 1)", x.ahead(0, 1), -1);
        due.is("21 ahead(1, 0)", x.ahead(1, 0), 1);
        due.is("21 ahead(0, 2)", x.ahead(0, 2), 1);
        due.is("21 ahead(2, 1)", x.ahead(2, 1), -1);
        due.is("21 ahead(3, 2)", x.ahead(3, 2), -1);
        due.is("21 ahead(0, 0)", x.ahead(0, 0), 0);
        Due.build(x, 3, "\u00ff");
        due.is("21 ahead(3, 0)", x.ahead(3, 0), 1);
        Due.build(x, 1, "abc");
        due.is("21 ahead(0, 1), the same", x.ahead(0, 1), 0);
        due.refused(x, "21 ahead(0, 4)", UNKNOWN, () -> x.ahead(0, 4));
        due.refused(x, "21 ahead(-1, 0)", UNKNOWN, () -> x.ahead(-1, 0));
    }

    private static void objectsAreApart() {
        RowsOfSigns x = with("abc", "t");
        RowsOfSigns y = new RowsOfSigns();
        long before = y.digest();
        x.text(0, 1);
        x.split(0, 't', -1);
        x.cutter(0, 0, 0, true);
        due.is("1 another object", y.digest(), before);
    }
}
