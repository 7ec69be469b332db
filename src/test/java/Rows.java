/** Makes rows and reads them, with few calls: an object is promised for 512 of them only. */
final class Rows {
    private Rows() {
    }

    /** Builder 0, then the texts from 0 on; null: that text is missing. */
    static RowsOfSigns with(String builder0, String... texts) {
        RowsOfSigns x = new RowsOfSigns();
        for (int t = 0; t < texts.length; t++) {
            if (texts[t] != null) {
                write(x, t, texts[t]);
            }
        }
        build(x, 0, builder0);
        return x;
    }

    /** All builders and all texts are this row, and both cutters are made of it; their separator is the comma. */
    static RowsOfSigns alike(String row) {
        RowsOfSigns x = new RowsOfSigns();
        write(x, 0, ",");
        write(x, 1, row);
        x.cutter(0, 1, 0, false);
        x.cutter(1, 1, 0, false);
        for (int b = 0; b < 4; b++) {
            build(x, b, row);
        }
        for (int t = 0; t < 8; t++) {
            x.take(0, 0, row.length(), t);
        }
        return x;
    }

    static void build(RowsOfSigns x, int b, String row) {
        x.length(b, 0);
        for (int from = 0; from < row.length(); from += 8) {
            int to = Math.min(from + 8, row.length());
            long letters = 0;
            for (int i = from; i < to; i++) {
                letters = letters << 8 | row.charAt(i);
            }
            x.signs(b, to - from, letters);
        }
    }

    /** A text becomes this row, and builder 3 is empty then. */
    static void write(RowsOfSigns x, int t, String row) {
        build(x, 3, row);
        x.take(3, 0, row.length(), t);
        x.length(3, 0);
    }

    static String builder(RowsOfSigns x, int b) {
        int size = x.size(b);
        StringBuilder row = new StringBuilder();
        for (int i = 0; i < size; i++) {
            row.append((char) x.at(b, i));
        }
        return row.toString();
    }

    static String text(RowsOfSigns x, int t) {
        int size = x.textSize(t);
        if (size == -1) {
            return "(missing)";
        }
        StringBuilder row = new StringBuilder();
        for (int i = 0; i < size; i++) {
            row.append((char) x.signAt(t, i));
        }
        return row.toString();
    }

    /** All parts, each between bars; text 7 is used for it. */
    static String parts(RowsOfSigns x) {
        int count = x.parts();
        StringBuilder row = new StringBuilder();
        for (int k = 0; k < count; k++) {
            x.partTo(k, 7);
            row.append('|').append(text(x, 7));
        }
        return row.append('|').toString();
    }

    /** All tokens that are left to a cutter, each between bars; text 7 is used for it. */
    static String tokens(RowsOfSigns x, int c) {
        StringBuilder row = new StringBuilder();
        for (int left = x.left(c); left > 0; left--) {
            x.next(c, 7);
            row.append('|').append(text(x, 7));
        }
        return row.append('|').toString();
    }

    static String shown(String row) {
        StringBuilder shown = new StringBuilder("\"");
        for (char sign : row.toCharArray()) {
            if (sign > 32 && sign < 127) {
                shown.append(sign);
            } else {
                shown.append('<').append((int) sign).append('>');
            }
        }
        return shown.append('"').toString();
    }
}
