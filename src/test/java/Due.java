/** Counts the answers that are not as due, and helps to make and to read rows. */
final class Due {
    interface Call {
        long answer();
    }

    private int asked = 0;
    private int wrong = 0;

    void is(String call, long got, long want) {
        asked++;
        if (got != want) {
            wrong++;
            System.out.println(call + " answered " + got + ", due is " + want);
        }
    }

    void is(String call, String got, String want) {
        asked++;
        if (!want.equals(got)) {
            wrong++;
            System.out.println(call + " left " + shown(got) + ", due is " + shown(want));
        }
    }

    /** The call answers this refusal and changes nothing. */
    void refused(RowsOfSigns x, String call, long want, Call made) {
        long before = x.digest();
        is(call, made.answer(), want);
        is(call + ", digest() behind it", x.digest(), before);
    }

    void end() {
        System.out.println(asked + " answers looked at, " + wrong + " wrong");
        if (wrong != 0 || asked == 0) {
            System.exit(1);
        }
    }

    /** A builder becomes this row. */
    static void build(RowsOfSigns x, int b, String row) {
        x.length(b, 0);
        for (int i = 0; i < row.length(); i++) {
            x.sign(b, row.charAt(i));
        }
    }

    /** A text becomes this row, and builder 3 is empty then. */
    static void write(RowsOfSigns x, int t, String row) {
        build(x, 3, row);
        x.take(3, 0, row.length(), t);
        x.length(3, 0);
    }

    static String builder(RowsOfSigns x, int b) {
        StringBuilder row = new StringBuilder();
        for (int i = 0; i < x.size(b); i++) {
            row.append((char) x.at(b, i));
        }
        return row.toString();
    }

    static String text(RowsOfSigns x, int t) {
        if (x.textSize(t) == RowsOfSigns.NONE) {
            return "(missing)";
        }
        StringBuilder row = new StringBuilder();
        for (int i = 0; i < x.textSize(t); i++) {
            row.append((char) x.signAt(t, i));
        }
        return row.toString();
    }

    /** All parts, each between bars; text 7 is used for it. */
    static String parts(RowsOfSigns x) {
        StringBuilder row = new StringBuilder();
        for (int k = 0; k < x.parts(); k++) {
            x.partTo(k, 7);
            row.append('|').append(text(x, 7));
        }
        return row.append('|').toString();
    }

    private static String shown(String row) {
        StringBuilder shown = new StringBuilder("\"");
        for (char sign : row.toCharArray()) {
            if (sign > 32 && sign < 127) {
                shown.append(sign);
            } else {
                shown.append('<').append((int) sign).append('>');
            }
        }
        return shown.append('"').toString();
    }
}
